def RX0 : String := "RuledTables$Finding"
def TX0 : u_T := fun k => match k with
  | 0 => ("RuledTables$Finding", "groups", "LRuledTables$Groups;", true)
  | 1 => ("RuledTables$Finding", "rules", "LRuledTables$Rules;", true)
  | 2 => ("RuledTables$Finding", "tables", "[LRuledTables$Table;", true)
  | 3 => ("RuledTables$Finding", "tableCount", "I", false)
  | _ => ("RuledTables$Finding", "placing", "LRuledTables$Placing;", true)
def tyX0 : Nat → FieldType := fun k => match k with
  | 0 => .object "RuledTables$Groups"
  | 1 => .object "RuledTables$Rules"
  | 2 => .array (.object "RuledTables$Table")
  | 3 => .int
  | _ => .object "RuledTables$Placing"
theorem nmX0 : ∀ a, a < 5 → ∀ b, b < 5 → a ≠ b → (TX0 a).2.1 ≠ (TX0 b).2.1 := by decide +kernel
theorem tyX0_ok : ∀ k, k < 5 → parseFieldDescriptor (TX0 k).2.2.1 = some (tyX0 k) := by decide +kernel
abbrev cX0_init : ByteArray := prog_2_method_1_code
def yX0_init : MethodName := ⟨RX0, "<init>", "()V"⟩
abbrev cX0_has : ByteArray := prog_2_method_2_code
def yX0_has : MethodName := ⟨RX0, "has", "(I)Z"⟩
abbrev cX0_find : ByteArray := prog_2_method_3_code
def yX0_find : MethodName := ⟨RX0, "find", "(LRuledTables$Page;)V"⟩
def RX1 : String := "RuledTables$Groups"
def TX1 : u_T := fun k => match k with
  | _ => ("RuledTables$Groups", "leads", "[I", true)
def tyX1 : Nat → FieldType := fun k => match k with
  | _ => .array .int
theorem nmX1 : ∀ a, a < 1 → ∀ b, b < 1 → a ≠ b → (TX1 a).2.1 ≠ (TX1 b).2.1 := by decide +kernel
theorem tyX1_ok : ∀ k, k < 1 → parseFieldDescriptor (TX1 k).2.2.1 = some (tyX1 k) := by decide +kernel
abbrev cX1_init : ByteArray := prog_3_method_1_code
def yX1_init : MethodName := ⟨RX1, "<init>", "(I)V"⟩
abbrev cX1_part : ByteArray := prog_3_method_2_code
def yX1_part : MethodName := ⟨RX1, "part", "(I)V"⟩
abbrev cX1_firstOf : ByteArray := prog_3_method_3_code
def yX1_firstOf : MethodName := ⟨RX1, "firstOf", "(I)I"⟩
abbrev cX1_join : ByteArray := prog_3_method_4_code
def yX1_join : MethodName := ⟨RX1, "join", "(II)V"⟩
def RX2 : String := "RuledTables$Lines"
def TX2 : u_T := fun k => match k with
  | 0 => ("RuledTables$Lines", "places", "[[I", true)
  | _ => ("RuledTables$Lines", "counts", "[I", true)
def tyX2 : Nat → FieldType := fun k => match k with
  | 0 => .array (.array .int)
  | _ => .array .int
theorem nmX2 : ∀ a, a < 2 → ∀ b, b < 2 → a ≠ b → (TX2 a).2.1 ≠ (TX2 b).2.1 := by decide +kernel
theorem tyX2_ok : ∀ k, k < 2 → parseFieldDescriptor (TX2 k).2.2.1 = some (tyX2 k) := by decide +kernel
abbrev cX2_init : ByteArray := prog_4_method_1_code
def yX2_init : MethodName := ⟨RX2, "<init>", "(I)V"⟩
abbrev cX2_clear : ByteArray := prog_4_method_2_code
def yX2_clear : MethodName := ⟨RX2, "clear", "()V"⟩
abbrev cX2_add : ByteArray := prog_4_method_3_code
def yX2_add : MethodName := ⟨RX2, "add", "(II)V"⟩
abbrev cX2_placeOf : ByteArray := prog_4_method_4_code
def yX2_placeOf : MethodName := ⟨RX2, "placeOf", "(II)I"⟩
abbrev cX2_lineAt : ByteArray := prog_4_method_5_code
def yX2_lineAt : MethodName := ⟨RX2, "lineAt", "(II)I"⟩
abbrev cX2_lineBefore : ByteArray := prog_4_method_6_code
def yX2_lineBefore : MethodName := ⟨RX2, "lineBefore", "(II)I"⟩
def RX3 : String := "RuledTables$Page"
def TX3 : u_T := fun k => match k with
  | 0 => ("RuledTables$Page", "pieces", "LRuledTables$Rows;", true)
  | 1 => ("RuledTables$Page", "words", "LRuledTables$Rows;", true)
  | _ => ("RuledTables$Page", "settings", "[I", true)
def tyX3 : Nat → FieldType := fun k => match k with
  | 0 => .object "RuledTables$Rows"
  | 1 => .object "RuledTables$Rows"
  | _ => .array .int
theorem nmX3 : ∀ a, a < 3 → ∀ b, b < 3 → a ≠ b → (TX3 a).2.1 ≠ (TX3 b).2.1 := by decide +kernel
theorem tyX3_ok : ∀ k, k < 3 → parseFieldDescriptor (TX3 k).2.2.1 = some (tyX3 k) := by decide +kernel
abbrev cX3_init : ByteArray := prog_5_method_1_code
def yX3_init : MethodName := ⟨RX3, "<init>", "()V"⟩
abbrev cX3_take : ByteArray := prog_5_method_2_code
def yX3_take : MethodName := ⟨RX3, "take", "(LRuledTables$Page;)V"⟩
def RX4 : String := "RuledTables$Placing"
def TX4 : u_T := fun k => match k with
  | 0 => ("RuledTables$Placing", "tables", "[I", true)
  | 1 => ("RuledTables$Placing", "cells", "[I", true)
  | 2 => ("RuledTables$Placing", "order", "[I", true)
  | 3 => ("RuledTables$Placing", "count", "I", false)
  | _ => ("RuledTables$Placing", "loose", "I", false)
def tyX4 : Nat → FieldType := fun k => match k with
  | 0 => .array .int
  | 1 => .array .int
  | 2 => .array .int
  | 3 => .int
  | _ => .int
theorem nmX4 : ∀ a, a < 5 → ∀ b, b < 5 → a ≠ b → (TX4 a).2.1 ≠ (TX4 b).2.1 := by decide +kernel
theorem tyX4_ok : ∀ k, k < 5 → parseFieldDescriptor (TX4 k).2.2.1 = some (tyX4 k) := by decide +kernel
abbrev cX4_init : ByteArray := prog_6_method_1_code
def yX4_init : MethodName := ⟨RX4, "<init>", "()V"⟩
abbrev cX4_find : ByteArray := prog_6_method_2_code
def yX4_find : MethodName := ⟨RX4, "find", "(LRuledTables$Rows;[LRuledTables$Table;I)V"⟩
abbrev cX4_place : ByteArray := prog_6_method_3_code
def yX4_place : MethodName := ⟨RX4, "place", "(ILRuledTables$Rows;[LRuledTables$Table;I)V"⟩
abbrev cX4_putInOrder : ByteArray := prog_6_method_4_code
def yX4_putInOrder : MethodName := ⟨RX4, "putInOrder", "(ILRuledTables$Rows;)V"⟩
abbrev cX4_isReadBefore : ByteArray := prog_6_method_5_code
def yX4_isReadBefore : MethodName := ⟨RX4, "isReadBefore", "(IILRuledTables$Rows;)Z"⟩
abbrev cX4_isIn : ByteArray := prog_6_method_6_code
def yX4_isIn : MethodName := ⟨RX4, "isIn", "(III)Z"⟩
abbrev cX4_wordRead : ByteArray := prog_6_method_7_code
def yX4_wordRead : MethodName := ⟨RX4, "wordRead", "(III)I"⟩
abbrev cX4_keepClear : ByteArray := prog_6_method_8_code
def yX4_keepClear : MethodName := ⟨RX4, "keepClear", "(LRuledTables$Rows;IIII)Z"⟩
def RX5 : String := "RuledTables$Rows"
def TX5 : u_T := fun k => match k with
  | 0 => ("RuledTables$Rows", "numbers", "[I", true)
  | 1 => ("RuledTables$Rows", "most", "I", true)
  | _ => ("RuledTables$Rows", "count", "I", false)
def tyX5 : Nat → FieldType := fun k => match k with
  | 0 => .array .int
  | 1 => .int
  | _ => .int
theorem nmX5 : ∀ a, a < 3 → ∀ b, b < 3 → a ≠ b → (TX5 a).2.1 ≠ (TX5 b).2.1 := by decide +kernel
theorem tyX5_ok : ∀ k, k < 3 → parseFieldDescriptor (TX5 k).2.2.1 = some (tyX5 k) := by decide +kernel
abbrev cX5_init : ByteArray := prog_7_method_1_code
def yX5_init : MethodName := ⟨RX5, "<init>", "(I)V"⟩
abbrev cX5_has : ByteArray := prog_7_method_2_code
def yX5_has : MethodName := ⟨RX5, "has", "(I)Z"⟩
abbrev cX5_isFull : ByteArray := prog_7_method_3_code
def yX5_isFull : MethodName := ⟨RX5, "isFull", "()Z"⟩
abbrev cX5_number : ByteArray := prog_7_method_4_code
def yX5_number : MethodName := ⟨RX5, "number", "(II)I"⟩
abbrev cX5_add : ByteArray := prog_7_method_5_code
def yX5_add : MethodName := ⟨RX5, "add", "(IIII)V"⟩
abbrev cX5_remove : ByteArray := prog_7_method_6_code
def yX5_remove : MethodName := ⟨RX5, "remove", "(I)V"⟩
abbrev cX5_take : ByteArray := prog_7_method_7_code
def yX5_take : MethodName := ⟨RX5, "take", "(LRuledTables$Rows;)V"⟩
def RX6 : String := "RuledTables$Rule"
def TX6 : u_T := fun k => match k with
  | 0 => ("RuledTables$Rule", "way", "I", false)
  | 1 => ("RuledTables$Rule", "at", "I", false)
  | 2 => ("RuledTables$Rule", "from", "I", false)
  | 3 => ("RuledTables$Rule", "to", "I", false)
  | 4 => ("RuledTables$Rule", "longest", "I", false)
  | 5 => ("RuledTables$Rule", "pieces", "I", false)
  | 6 => ("RuledTables$Rule", "first", "I", false)
  | 7 => ("RuledTables$Rule", "crossings", "I", false)
  | _ => ("RuledTables$Rule", "table", "I", false)
def tyX6 : Nat → FieldType := fun k => match k with
  | 0 => .int
  | 1 => .int
  | 2 => .int
  | 3 => .int
  | 4 => .int
  | 5 => .int
  | 6 => .int
  | 7 => .int
  | _ => .int
theorem nmX6 : ∀ a, a < 9 → ∀ b, b < 9 → a ≠ b → (TX6 a).2.1 ≠ (TX6 b).2.1 := by decide +kernel
theorem tyX6_ok : ∀ k, k < 9 → parseFieldDescriptor (TX6 k).2.2.1 = some (tyX6 k) := by decide +kernel
abbrev cX6_init : ByteArray := prog_8_method_1_code
def yX6_init : MethodName := ⟨RX6, "<init>", "()V"⟩
abbrev cX6_begin : ByteArray := prog_8_method_2_code
def yX6_begin : MethodName := ⟨RX6, "begin", "(LRuledTables$Rows;I)V"⟩
abbrev cX6_takeIn : ByteArray := prog_8_method_3_code
def yX6_takeIn : MethodName := ⟨RX6, "takeIn", "(LRuledTables$Rows;I)V"⟩
abbrev cX6_comesBefore : ByteArray := prog_8_method_4_code
def yX6_comesBefore : MethodName := ⟨RX6, "comesBefore", "(LRuledTables$Rule;)Z"⟩
abbrev cX6_covers : ByteArray := prog_8_method_5_code
def yX6_covers : MethodName := ⟨RX6, "covers", "(III)Z"⟩
abbrev cX6_crosses : ByteArray := prog_8_method_6_code
def yX6_crosses : MethodName := ⟨RX6, "crosses", "(LRuledTables$Rule;I)Z"⟩
abbrev cX6_tell : ByteArray := prog_8_method_7_code
def yX6_tell : MethodName := ⟨RX6, "tell", "(I)I"⟩
def RX7 : String := "RuledTables$Rules"
def TX7 : u_T := fun k => match k with
  | 0 => ("RuledTables$Rules", "all", "[LRuledTables$Rule;", true)
  | 1 => ("RuledTables$Rules", "ofPiece", "[I", true)
  | _ => ("RuledTables$Rules", "count", "I", false)
def tyX7 : Nat → FieldType := fun k => match k with
  | 0 => .array (.object "RuledTables$Rule")
  | 1 => .array .int
  | _ => .int
theorem nmX7 : ∀ a, a < 3 → ∀ b, b < 3 → a ≠ b → (TX7 a).2.1 ≠ (TX7 b).2.1 := by decide +kernel
theorem tyX7_ok : ∀ k, k < 3 → parseFieldDescriptor (TX7 k).2.2.1 = some (tyX7 k) := by decide +kernel
abbrev cX7_init : ByteArray := prog_9_method_1_code
def yX7_init : MethodName := ⟨RX7, "<init>", "()V"⟩
abbrev cX7_has : ByteArray := prog_9_method_2_code
def yX7_has : MethodName := ⟨RX7, "has", "(I)Z"⟩
abbrev cX7_find : ByteArray := prog_9_method_3_code
def yX7_find : MethodName := ⟨RX7, "find", "(LRuledTables$Page;LRuledTables$Groups;)V"⟩
abbrev cX7_joinNear : ByteArray := prog_9_method_4_code
def yX7_joinNear : MethodName := ⟨RX7, "joinNear", "(LRuledTables$Page;LRuledTables$Groups;)V"⟩
abbrev cX7_areNear : ByteArray := prog_9_method_5_code
def yX7_areNear : MethodName := ⟨RX7, "areNear", "(LRuledTables$Rows;II[I)Z"⟩
abbrev cX7_gather : ByteArray := prog_9_method_6_code
def yX7_gather : MethodName := ⟨RX7, "gather", "(LRuledTables$Rows;LRuledTables$Groups;)V"⟩
abbrev cX7_sort : ByteArray := prog_9_method_7_code
def yX7_sort : MethodName := ⟨RX7, "sort", "()V"⟩
abbrev cX7_tellPieces : ByteArray := prog_9_method_8_code
def yX7_tellPieces : MethodName := ⟨RX7, "tellPieces", "(ILRuledTables$Groups;)V"⟩
abbrev cX7_joinCrossing : ByteArray := prog_9_method_9_code
def yX7_joinCrossing : MethodName := ⟨RX7, "joinCrossing", "(ILRuledTables$Groups;)V"⟩
abbrev cX7_numberTables : ByteArray := prog_9_method_10_code
def yX7_numberTables : MethodName := ⟨RX7, "numberTables", "(LRuledTables$Groups;)I"⟩
abbrev cX7_countPlaces : ByteArray := prog_9_method_11_code
def yX7_countPlaces : MethodName := ⟨RX7, "countPlaces", "(IILRuledTables$Groups;)I"⟩
abbrev cX7_giveTable : ByteArray := prog_9_method_12_code
def yX7_giveTable : MethodName := ⟨RX7, "giveTable", "(IILRuledTables$Groups;)V"⟩
def RX8 : String := "RuledTables$Table"
def TX8 : u_T := fun k => match k with
  | 0 => ("RuledTables$Table", "lines", "LRuledTables$Lines;", true)
  | 1 => ("RuledTables$Table", "rules", "I", false)
  | 2 => ("RuledTables$Table", "rows", "I", false)
  | 3 => ("RuledTables$Table", "columns", "I", false)
  | 4 => ("RuledTables$Table", "sides", "[Z", true)
  | 5 => ("RuledTables$Table", "fieldCells", "[I", true)
  | 6 => ("RuledTables$Table", "cells", "[[I", true)
  | 7 => ("RuledTables$Table", "cellCount", "I", false)
  | 8 => ("RuledTables$Table", "missedLines", "[[I", true)
  | 9 => ("RuledTables$Table", "missedCount", "I", false)
  | 10 => ("RuledTables$Table", "words", "I", false)
  | _ => ("RuledTables$Table", "heads", "I", false)
def tyX8 : Nat → FieldType := fun k => match k with
  | 0 => .object "RuledTables$Lines"
  | 1 => .int
  | 2 => .int
  | 3 => .int
  | 4 => .array .boolean
  | 5 => .array .int
  | 6 => .array (.array .int)
  | 7 => .int
  | 8 => .array (.array .int)
  | 9 => .int
  | 10 => .int
  | _ => .int
theorem nmX8 : ∀ a, a < 12 → ∀ b, b < 12 → a ≠ b → (TX8 a).2.1 ≠ (TX8 b).2.1 := by decide +kernel
theorem tyX8_ok : ∀ k, k < 12 → parseFieldDescriptor (TX8 k).2.2.1 = some (tyX8 k) := by decide +kernel
abbrev cX8_init : ByteArray := prog_10_method_1_code
def yX8_init : MethodName := ⟨RX8, "<init>", "(I)V"⟩
abbrev cX8_find : ByteArray := prog_10_method_2_code
def yX8_find : MethodName := ⟨RX8, "find", "(LRuledTables$Rules;IILRuledTables$Groups;)V"⟩
abbrev cX8_takeLines : ByteArray := prog_10_method_3_code
def yX8_takeLines : MethodName := ⟨RX8, "takeLines", "(LRuledTables$Rules;I)V"⟩
abbrev cX8_hasRoom : ByteArray := prog_10_method_4_code
def yX8_hasRoom : MethodName := ⟨RX8, "hasRoom", "()Z"⟩
abbrev cX8_markSides : ByteArray := prog_10_method_5_code
def yX8_markSides : MethodName := ⟨RX8, "markSides", "(LRuledTables$Rules;II)V"⟩
abbrev cX8_markSidesOf : ByteArray := prog_10_method_6_code
def yX8_markSidesOf : MethodName := ⟨RX8, "markSidesOf", "(LRuledTables$Rule;I)V"⟩
abbrev cX8_sideOf : ByteArray := prog_10_method_7_code
def yX8_sideOf : MethodName := ⟨RX8, "sideOf", "(III)I"⟩
abbrev cX8_hasRuled : ByteArray := prog_10_method_8_code
def yX8_hasRuled : MethodName := ⟨RX8, "hasRuled", "(III)Z"⟩
abbrev cX8_joinFields : ByteArray := prog_10_method_9_code
def yX8_joinFields : MethodName := ⟨RX8, "joinFields", "(LRuledTables$Groups;)V"⟩
abbrev cX8_numberCells : ByteArray := prog_10_method_10_code
def yX8_numberCells : MethodName := ⟨RX8, "numberCells", "(LRuledTables$Groups;)V"⟩
abbrev cX8_beginCell : ByteArray := prog_10_method_11_code
def yX8_beginCell : MethodName := ⟨RX8, "beginCell", "(II)V"⟩
abbrev cX8_widenCell : ByteArray := prog_10_method_12_code
def yX8_widenCell : MethodName := ⟨RX8, "widenCell", "(III)V"⟩
abbrev cX8_markBroken : ByteArray := prog_10_method_13_code
def yX8_markBroken : MethodName := ⟨RX8, "markBroken", "()V"⟩
abbrev cX8_markOpen : ByteArray := prog_10_method_14_code
def yX8_markOpen : MethodName := ⟨RX8, "markOpen", "()V"⟩
abbrev cX8_openUnless : ByteArray := prog_10_method_15_code
def yX8_openUnless : MethodName := ⟨RX8, "openUnless", "(ZI)V"⟩
abbrev cX8_hasCell : ByteArray := prog_10_method_16_code
def yX8_hasCell : MethodName := ⟨RX8, "hasCell", "(I)Z"⟩
abbrev cX8_cellOf : ByteArray := prog_10_method_17_code
def yX8_cellOf : MethodName := ⟨RX8, "cellOf", "(II)I"⟩
abbrev cX8_countHeads : ByteArray := prog_10_method_18_code
def yX8_countHeads : MethodName := ⟨RX8, "countHeads", "()I"⟩
abbrev cX8_isOneColumnWide : ByteArray := prog_10_method_19_code
def yX8_isOneColumnWide : MethodName := ⟨RX8, "isOneColumnWide", "(I)Z"⟩
abbrev cX8_headingOf : ByteArray := prog_10_method_20_code
def yX8_headingOf : MethodName := ⟨RX8, "headingOf", "(II)I"⟩
abbrev cX8_isFirstInColumn : ByteArray := prog_10_method_21_code
def yX8_isFirstInColumn : MethodName := ⟨RX8, "isFirstInColumn", "(II)Z"⟩
abbrev cX8_findMissed : ByteArray := prog_10_method_22_code
def yX8_findMissed : MethodName := ⟨RX8, "findMissed", "(LRuledTables$Rows;LRuledTables$Placing;I)V"⟩
abbrev cX8_findMissedIn : ByteArray := prog_10_method_23_code
def yX8_findMissedIn : MethodName := ⟨RX8, "findMissedIn", "(IILRuledTables$Rows;LRuledTables$Placing;I)V"⟩
abbrev cX8_addMissed : ByteArray := prog_10_method_24_code
def yX8_addMissed : MethodName := ⟨RX8, "addMissed", "(III)V"⟩
abbrev cX8_drawMissed : ByteArray := prog_10_method_25_code
def yX8_drawMissed : MethodName := ⟨RX8, "drawMissed", "(ILRuledTables$Rows;)V"⟩
abbrev cX8_countWhole : ByteArray := prog_10_method_26_code
def yX8_countWhole : MethodName := ⟨RX8, "countWhole", "()I"⟩
abbrev cX8_tell : ByteArray := prog_10_method_27_code
def yX8_tell : MethodName := ⟨RX8, "tell", "(I)I"⟩
def RX9 : String := "RuledTables"
def TX9 : u_T := fun k => match k with
  | 0 => ("RuledTables", "page", "LRuledTables$Page;", true)
  | 1 => ("RuledTables", "images", "[LRuledTables$Page;", true)
  | 2 => ("RuledTables", "kept", "[Z", true)
  | 3 => ("RuledTables", "finding", "LRuledTables$Finding;", true)
  | _ => ("RuledTables", "stale", "Z", false)
def tyX9 : Nat → FieldType := fun k => match k with
  | 0 => .object "RuledTables$Page"
  | 1 => .array (.object "RuledTables$Page")
  | 2 => .array .boolean
  | 3 => .object "RuledTables$Finding"
  | _ => .boolean
theorem nmX9 : ∀ a, a < 5 → ∀ b, b < 5 → a ≠ b → (TX9 a).2.1 ≠ (TX9 b).2.1 := by decide +kernel
theorem tyX9_ok : ∀ k, k < 5 → parseFieldDescriptor (TX9 k).2.2.1 = some (tyX9 k) := by decide +kernel
abbrev cX9_init : ByteArray := prog_1_method_1_code
def yX9_init : MethodName := ⟨RX9, "<init>", "()V"⟩
abbrev cX9_set : ByteArray := prog_1_method_2_code
def yX9_set : MethodName := ⟨RX9, "set", "(II)I"⟩
abbrev cX9_draw : ByteArray := prog_1_method_3_code
def yX9_draw : MethodName := ⟨RX9, "draw", "(IIII)I"⟩
abbrev cX9_erase : ByteArray := prog_1_method_4_code
def yX9_erase : MethodName := ⟨RX9, "erase", "(I)I"⟩
abbrev cX9_piece : ByteArray := prog_1_method_5_code
def yX9_piece : MethodName := ⟨RX9, "piece", "(II)I"⟩
abbrev cX9_write : ByteArray := prog_1_method_6_code
def yX9_write : MethodName := ⟨RX9, "write", "(IIII)I"⟩
abbrev cX9_strike : ByteArray := prog_1_method_7_code
def yX9_strike : MethodName := ⟨RX9, "strike", "(I)I"⟩
abbrev cX9_word : ByteArray := prog_1_method_8_code
def yX9_word : MethodName := ⟨RX9, "word", "(II)I"⟩
abbrev cX9_rule : ByteArray := prog_1_method_9_code
def yX9_rule : MethodName := ⟨RX9, "rule", "(II)I"⟩
abbrev cX9_cross : ByteArray := prog_1_method_10_code
def yX9_cross : MethodName := ⟨RX9, "cross", "(II)I"⟩
abbrev cX9_table : ByteArray := prog_1_method_11_code
def yX9_table : MethodName := ⟨RX9, "table", "(II)I"⟩
abbrev cX9_edge : ByteArray := prog_1_method_12_code
def yX9_edge : MethodName := ⟨RX9, "edge", "(III)I"⟩
abbrev cX9_ruled : ByteArray := prog_1_method_13_code
def yX9_ruled : MethodName := ⟨RX9, "ruled", "(IIII)I"⟩
abbrev cX9_at : ByteArray := prog_1_method_14_code
def yX9_at : MethodName := ⟨RX9, "at", "(III)I"⟩
abbrev cX9_cell : ByteArray := prog_1_method_15_code
def yX9_cell : MethodName := ⟨RX9, "cell", "(III)I"⟩
abbrev cX9_read : ByteArray := prog_1_method_16_code
def yX9_read : MethodName := ⟨RX9, "read", "(III)I"⟩
abbrev cX9_missed : ByteArray := prog_1_method_17_code
def yX9_missed : MethodName := ⟨RX9, "missed", "(III)I"⟩
abbrev cX9_mend : ByteArray := prog_1_method_18_code
def yX9_mend : MethodName := ⟨RX9, "mend", "(I)I"⟩
abbrev cX9_heading : ByteArray := prog_1_method_19_code
def yX9_heading : MethodName := ⟨RX9, "heading", "(III)I"⟩
abbrev cX9_image : ByteArray := prog_1_method_20_code
def yX9_image : MethodName := ⟨RX9, "image", "(I)I"⟩
abbrev cX9_restore : ByteArray := prog_1_method_21_code
def yX9_restore : MethodName := ⟨RX9, "restore", "(I)I"⟩
abbrev cX9_told : ByteArray := prog_1_method_22_code
def yX9_told : MethodName := ⟨RX9, "told", "(I)I"⟩
abbrev cX9_found : ByteArray := prog_1_method_23_code
def yX9_found : MethodName := ⟨RX9, "found", "()LRuledTables$Finding;"⟩
abbrev cX9_isWay : ByteArray := prog_1_method_24_code
def yX9_isWay : MethodName := ⟨RX9, "isWay", "(I)Z"⟩
abbrev cX9_isPlace : ByteArray := prog_1_method_25_code
def yX9_isPlace : MethodName := ⟨RX9, "isPlace", "(I)Z"⟩
abbrev cX9_isStretch : ByteArray := prog_1_method_26_code
def yX9_isStretch : MethodName := ⟨RX9, "isStretch", "(II)Z"⟩
def RX10 : String := "RuledTablesModel"
def TX10 : u_T := fun k => match k with
  | 0 => ("RuledTablesModel", "drawn", "[I", true)
  | 1 => ("RuledTablesModel", "drawnMany", "I", false)
  | 2 => ("RuledTablesModel", "boxes", "[I", true)
  | 3 => ("RuledTablesModel", "boxMany", "I", false)
  | 4 => ("RuledTablesModel", "how", "[I", true)
  | 5 => ("RuledTablesModel", "isFound", "Z", false)
  | 6 => ("RuledTablesModel", "label", "[I", true)
  | 7 => ("RuledTablesModel", "rules", "[I", true)
  | 8 => ("RuledTablesModel", "ruleMany", "I", false)
  | 9 => ("RuledTablesModel", "ruleOf", "[I", true)
  | 10 => ("RuledTablesModel", "tableMany", "I", false)
  | 11 => ("RuledTablesModel", "lines", "[I", true)
  | 12 => ("RuledTablesModel", "lineMany", "[I", true)
  | 13 => ("RuledTablesModel", "fieldFrom", "[I", true)
  | 14 => ("RuledTablesModel", "cellFrom", "[I", true)
  | 15 => ("RuledTablesModel", "cellOf", "[I", true)
  | 16 => ("RuledTablesModel", "cells", "[I", true)
  | 17 => ("RuledTablesModel", "wordTable", "[I", true)
  | 18 => ("RuledTablesModel", "wordCell", "[I", true)
  | 19 => ("RuledTablesModel", "missedMany", "I", false)
  | 20 => ("RuledTablesModel", "missedCell", "I", false)
  | 21 => ("RuledTablesModel", "missedWay", "I", false)
  | 22 => ("RuledTablesModel", "missedLine", "I", false)
  | 23 => ("RuledTablesModel", "coming", "[I", true)
  | 24 => ("RuledTablesModel", "kept", "[I", true)
  | 25 => ("RuledTablesModel", "isKept", "[Z", true)
  | 26 => ("RuledTablesModel", "keptAt", "I", false)
  | _ => ("RuledTablesModel", "isWriting", "Z", false)
def tyX10 : Nat → FieldType := fun k => match k with
  | 0 => .array .int
  | 1 => .int
  | 2 => .array .int
  | 3 => .int
  | 4 => .array .int
  | 5 => .boolean
  | 6 => .array .int
  | 7 => .array .int
  | 8 => .int
  | 9 => .array .int
  | 10 => .int
  | 11 => .array .int
  | 12 => .array .int
  | 13 => .array .int
  | 14 => .array .int
  | 15 => .array .int
  | 16 => .array .int
  | 17 => .array .int
  | 18 => .array .int
  | 19 => .int
  | 20 => .int
  | 21 => .int
  | 22 => .int
  | 23 => .array .int
  | 24 => .array .int
  | 25 => .array .boolean
  | 26 => .int
  | _ => .boolean
theorem nmX10 : ∀ a, a < 28 → ∀ b, b < 28 → a ≠ b → (TX10 a).2.1 ≠ (TX10 b).2.1 := by decide +kernel
theorem tyX10_ok : ∀ k, k < 28 → parseFieldDescriptor (TX10 k).2.2.1 = some (tyX10 k) := by decide +kernel
abbrev cX10_init : ByteArray := prog_12_method_1_code
def yX10_init : MethodName := ⟨RX10, "<init>", "()V"⟩
abbrev cX10_in : ByteArray := prog_12_method_3_code
def yX10_in : MethodName := ⟨RX10, "in", "(JJJ)Z"⟩
abbrev cX10_less : ByteArray := prog_12_method_4_code
def yX10_less : MethodName := ⟨RX10, "less", "(II)I"⟩
abbrev cX10_greater : ByteArray := prog_12_method_5_code
def yX10_greater : MethodName := ⟨RX10, "greater", "(II)I"⟩
abbrev cX10_pieceAt : ByteArray := prog_12_method_6_code
def yX10_pieceAt : MethodName := ⟨RX10, "pieceAt", "(II)I"⟩
abbrev cX10_boxAt : ByteArray := prog_12_method_7_code
def yX10_boxAt : MethodName := ⟨RX10, "boxAt", "(II)I"⟩
abbrev cX10_set : ByteArray := prog_12_method_8_code
def yX10_set : MethodName := ⟨RX10, "set", "(II)I"⟩
abbrev cX10_isPlace : ByteArray := prog_12_method_9_code
def yX10_isPlace : MethodName := ⟨RX10, "isPlace", "(I)Z"⟩
abbrev cX10_addPiece : ByteArray := prog_12_method_10_code
def yX10_addPiece : MethodName := ⟨RX10, "addPiece", "(IIII)V"⟩
abbrev cX10_draw : ByteArray := prog_12_method_11_code
def yX10_draw : MethodName := ⟨RX10, "draw", "(IIII)I"⟩
abbrev cX10_erase : ByteArray := prog_12_method_12_code
def yX10_erase : MethodName := ⟨RX10, "erase", "(I)I"⟩
abbrev cX10_write : ByteArray := prog_12_method_13_code
def yX10_write : MethodName := ⟨RX10, "write", "(IIII)I"⟩
abbrev cX10_strike : ByteArray := prog_12_method_14_code
def yX10_strike : MethodName := ⟨RX10, "strike", "(I)I"⟩
abbrev cX10_ruleAt : ByteArray := prog_12_method_15_code
def yX10_ruleAt : MethodName := ⟨RX10, "ruleAt", "(II)I"⟩
abbrev cX10_isNear : ByteArray := prog_12_method_16_code
def yX10_isNear : MethodName := ⟨RX10, "isNear", "(II)Z"⟩
abbrev cX10_join : ByteArray := prog_12_method_17_code
def yX10_join : MethodName := ⟨RX10, "join", "(III)V"⟩
abbrev cX10_begin : ByteArray := prog_12_method_18_code
def yX10_begin : MethodName := ⟨RX10, "begin", "(I)V"⟩
abbrev cX10_addRule : ByteArray := prog_12_method_19_code
def yX10_addRule : MethodName := ⟨RX10, "addRule", "(I)V"⟩
abbrev cX10_isRuleBefore : ByteArray := prog_12_method_20_code
def yX10_isRuleBefore : MethodName := ⟨RX10, "isRuleBefore", "(II)Z"⟩
abbrev cX10_sortRules : ByteArray := prog_12_method_21_code
def yX10_sortRules : MethodName := ⟨RX10, "sortRules", "()V"⟩
abbrev cX10_findRules : ByteArray := prog_12_method_22_code
def yX10_findRules : MethodName := ⟨RX10, "findRules", "()V"⟩
abbrev cX10_lies : ByteArray := prog_12_method_23_code
def yX10_lies : MethodName := ⟨RX10, "lies", "(II)Z"⟩
abbrev cX10_isCross : ByteArray := prog_12_method_24_code
def yX10_isCross : MethodName := ⟨RX10, "isCross", "(II)Z"⟩
abbrev cX10_lineAt : ByteArray := prog_12_method_25_code
def yX10_lineAt : MethodName := ⟨RX10, "lineAt", "(III)I"⟩
abbrev cX10_rowsOf : ByteArray := prog_12_method_26_code
def yX10_rowsOf : MethodName := ⟨RX10, "rowsOf", "(I)I"⟩
abbrev cX10_columnsOf : ByteArray := prog_12_method_27_code
def yX10_columnsOf : MethodName := ⟨RX10, "columnsOf", "(I)I"⟩
abbrev cX10_countLines : ByteArray := prog_12_method_28_code
def yX10_countLines : MethodName := ⟨RX10, "countLines", "(II)I"⟩
abbrev cX10_layLines : ByteArray := prog_12_method_29_code
def yX10_layLines : MethodName := ⟨RX10, "layLines", "(II)V"⟩
abbrev cX10_findTables : ByteArray := prog_12_method_30_code
def yX10_findTables : MethodName := ⟨RX10, "findTables", "()V"⟩
abbrev cX10_reaches : ByteArray := prog_12_method_31_code
def yX10_reaches : MethodName := ⟨RX10, "reaches", "(IIIII)Z"⟩
abbrev cX10_isSide : ByteArray := prog_12_method_32_code
def yX10_isSide : MethodName := ⟨RX10, "isSide", "(IIII)Z"⟩
abbrev cX10_isRuled : ByteArray := prog_12_method_33_code
def yX10_isRuled : MethodName := ⟨RX10, "isRuled", "(IIII)Z"⟩
abbrev cX10_cellAt : ByteArray := prog_12_method_34_code
def yX10_cellAt : MethodName := ⟨RX10, "cellAt", "(II)I"⟩
abbrev cX10_addField : ByteArray := prog_12_method_35_code
def yX10_addField : MethodName := ⟨RX10, "addField", "(III)V"⟩
abbrev cX10_isOpen : ByteArray := prog_12_method_36_code
def yX10_isOpen : MethodName := ⟨RX10, "isOpen", "(III)Z"⟩
abbrev cX10_findCells : ByteArray := prog_12_method_37_code
def yX10_findCells : MethodName := ⟨RX10, "findCells", "(I)V"⟩
abbrev cX10_between : ByteArray := prog_12_method_38_code
def yX10_between : MethodName := ⟨RX10, "between", "(III)I"⟩
abbrev cX10_findWord : ByteArray := prog_12_method_39_code
def yX10_findWord : MethodName := ⟨RX10, "findWord", "(I)V"⟩
abbrev cX10_findAll : ByteArray := prog_12_method_40_code
def yX10_findAll : MethodName := ⟨RX10, "findAll", "()V"⟩
abbrev cX10_isTable : ByteArray := prog_12_method_41_code
def yX10_isTable : MethodName := ⟨RX10, "isTable", "(I)Z"⟩
abbrev cX10_isCell : ByteArray := prog_12_method_42_code
def yX10_isCell : MethodName := ⟨RX10, "isCell", "(II)Z"⟩
abbrev cX10_piece : ByteArray := prog_12_method_43_code
def yX10_piece : MethodName := ⟨RX10, "piece", "(II)I"⟩
abbrev cX10_word : ByteArray := prog_12_method_44_code
def yX10_word : MethodName := ⟨RX10, "word", "(II)I"⟩
abbrev cX10_isRule : ByteArray := prog_12_method_45_code
def yX10_isRule : MethodName := ⟨RX10, "isRule", "(I)Z"⟩
abbrev cX10_rule : ByteArray := prog_12_method_46_code
def yX10_rule : MethodName := ⟨RX10, "rule", "(II)I"⟩
abbrev cX10_cross : ByteArray := prog_12_method_47_code
def yX10_cross : MethodName := ⟨RX10, "cross", "(II)I"⟩
abbrev cX10_wordsBy : ByteArray := prog_12_method_48_code
def yX10_wordsBy : MethodName := ⟨RX10, "wordsBy", "(III)I"⟩
abbrev cX10_missBy : ByteArray := prog_12_method_49_code
def yX10_missBy : MethodName := ⟨RX10, "missBy", "(IIII)V"⟩
abbrev cX10_findMissed : ByteArray := prog_12_method_50_code
def yX10_findMissed : MethodName := ⟨RX10, "findMissed", "(II)V"⟩
abbrev cX10_missed : ByteArray := prog_12_method_51_code
def yX10_missed : MethodName := ⟨RX10, "missed", "(III)I"⟩
abbrev cX10_layComing : ByteArray := prog_12_method_52_code
def yX10_layComing : MethodName := ⟨RX10, "layComing", "(II)V"⟩
abbrev cX10_mend : ByteArray := prog_12_method_53_code
def yX10_mend : MethodName := ⟨RX10, "mend", "(I)I"⟩
abbrev cX10_isNarrow : ByteArray := prog_12_method_54_code
def yX10_isNarrow : MethodName := ⟨RX10, "isNarrow", "(II)Z"⟩
abbrev cX10_headsOf : ByteArray := prog_12_method_55_code
def yX10_headsOf : MethodName := ⟨RX10, "headsOf", "(I)I"⟩
abbrev cX10_rulesOf : ByteArray := prog_12_method_56_code
def yX10_rulesOf : MethodName := ⟨RX10, "rulesOf", "(I)I"⟩
abbrev cX10_wordsOf : ByteArray := prog_12_method_57_code
def yX10_wordsOf : MethodName := ⟨RX10, "wordsOf", "(I)I"⟩
abbrev cX10_wholeOf : ByteArray := prog_12_method_58_code
def yX10_wholeOf : MethodName := ⟨RX10, "wholeOf", "(I)I"⟩
abbrev cX10_table : ByteArray := prog_12_method_59_code
def yX10_table : MethodName := ⟨RX10, "table", "(II)I"⟩
abbrev cX10_edge : ByteArray := prog_12_method_60_code
def yX10_edge : MethodName := ⟨RX10, "edge", "(III)I"⟩
abbrev cX10_ruled : ByteArray := prog_12_method_61_code
def yX10_ruled : MethodName := ⟨RX10, "ruled", "(IIII)I"⟩
abbrev cX10_at : ByteArray := prog_12_method_62_code
def yX10_at : MethodName := ⟨RX10, "at", "(III)I"⟩
abbrev cX10_wordsIn : ByteArray := prog_12_method_63_code
def yX10_wordsIn : MethodName := ⟨RX10, "wordsIn", "(I)I"⟩
abbrev cX10_cell : ByteArray := prog_12_method_64_code
def yX10_cell : MethodName := ⟨RX10, "cell", "(III)I"⟩
abbrev cX10_isReadBefore : ByteArray := prog_12_method_65_code
def yX10_isReadBefore : MethodName := ⟨RX10, "isReadBefore", "(II)Z"⟩
abbrev cX10_isWordOf : ByteArray := prog_12_method_66_code
def yX10_isWordOf : MethodName := ⟨RX10, "isWordOf", "(II)Z"⟩
abbrev cX10_read : ByteArray := prog_12_method_67_code
def yX10_read : MethodName := ⟨RX10, "read", "(III)I"⟩
abbrev cX10_heading : ByteArray := prog_12_method_68_code
def yX10_heading : MethodName := ⟨RX10, "heading", "(III)I"⟩
abbrev cX10_pass : ByteArray := prog_12_method_69_code
def yX10_pass : MethodName := ⟨RX10, "pass", "(I)I"⟩
abbrev cX10_passRow : ByteArray := prog_12_method_70_code
def yX10_passRow : MethodName := ⟨RX10, "passRow", "([II)V"⟩
abbrev cX10_passAll : ByteArray := prog_12_method_71_code
def yX10_passAll : MethodName := ⟨RX10, "passAll", "()V"⟩
abbrev cX10_image : ByteArray := prog_12_method_72_code
def yX10_image : MethodName := ⟨RX10, "image", "(I)I"⟩
abbrev cX10_restore : ByteArray := prog_12_method_73_code
def yX10_restore : MethodName := ⟨RX10, "restore", "(I)I"⟩
abbrev cX10_told : ByteArray := prog_12_method_74_code
def yX10_told : MethodName := ⟨RX10, "told", "(I)I"⟩
abbrev vwCl : List vw_C := [(RX0, TX0, 5), (RX1, TX1, 1), (RX2, TX2, 2), (RX3, TX3, 3), (RX4, TX4, 5), (RX5, TX5, 3), (RX6, TX6, 9), (RX7, TX7, 3), (RX8, TX8, 12), (RX9, TX9, 5), (RX10, TX10, 28)]
def wtb : List Cond := lw_tbl.filter goodWord
theorem wt {w : Cond} (h : w ∈ lw_tbl) (hg : goodWord w = true) : w ∈ wtb := List.mem_filter.mpr ⟨h, hg⟩
theorem wtb_good {w : Cond} (h : w ∈ wtb) : w ∈ lw_tbl ∧ goodWord w = true := List.mem_filter.mp h
theorem wtb_in {ws : List Cond} (h : ∀ w ∈ ws, w ∈ wtb) : GoodIn wtb ws := fun w hw => ⟨h w hw, good_of_word (wtb_good (h w hw)).2⟩
theorem inX0 : ∀ w ∈ u_ws RX0 TX0 5, w ∈ wtb := by
  intro w hw
  obtain ⟨k, hk, rfl⟩ := List.mem_map.mp hw
  have hk := List.mem_range.mp hk
  match k, hk with
  | 0, _ => exact wt (List.mem_of_getElem? (i := 338) (by decide +kernel)) rfl
  | 1, _ => exact wt (List.mem_of_getElem? (i := 340) (by decide +kernel)) rfl
  | 2, _ => exact wt (List.mem_of_getElem? (i := 342) (by decide +kernel)) rfl
  | 3, _ => exact wt (List.mem_of_getElem? (i := 344) (by decide +kernel)) rfl
  | 4, _ => exact wt (List.mem_of_getElem? (i := 346) (by decide +kernel)) rfl
  | j + 5, h => omega
theorem inX1 : ∀ w ∈ u_ws RX1 TX1 1, w ∈ wtb := by
  intro w hw
  obtain ⟨k, hk, rfl⟩ := List.mem_map.mp hw
  have hk := List.mem_range.mp hk
  match k, hk with
  | 0, _ => exact wt (List.mem_of_getElem? (i := 165) (by decide +kernel)) rfl
  | j + 1, h => omega
theorem inX2 : ∀ w ∈ u_ws RX2 TX2 2, w ∈ wtb := by
  intro w hw
  obtain ⟨k, hk, rfl⟩ := List.mem_map.mp hw
  have hk := List.mem_range.mp hk
  match k, hk with
  | 0, _ => exact wt (List.mem_of_getElem? (i := 253) (by decide +kernel)) rfl
  | 1, _ => exact wt (List.mem_of_getElem? (i := 255) (by decide +kernel)) rfl
  | j + 2, h => omega
theorem inX3 : ∀ w ∈ u_ws RX3 TX3 3, w ∈ wtb := by
  intro w hw
  obtain ⟨k, hk, rfl⟩ := List.mem_map.mp hw
  have hk := List.mem_range.mp hk
  match k, hk with
  | 0, _ => exact wt (List.mem_of_getElem? (i := 142) (by decide +kernel)) rfl
  | 1, _ => exact wt (List.mem_of_getElem? (i := 144) (by decide +kernel)) rfl
  | 2, _ => exact wt (List.mem_of_getElem? (i := 146) (by decide +kernel)) rfl
  | j + 3, h => omega
theorem inX4 : ∀ w ∈ u_ws RX4 TX4 5, w ∈ wtb := by
  intro w hw
  obtain ⟨k, hk, rfl⟩ := List.mem_map.mp hw
  have hk := List.mem_range.mp hk
  match k, hk with
  | 0, _ => exact wt (List.mem_of_getElem? (i := 318) (by decide +kernel)) rfl
  | 1, _ => exact wt (List.mem_of_getElem? (i := 320) (by decide +kernel)) rfl
  | 2, _ => exact wt (List.mem_of_getElem? (i := 322) (by decide +kernel)) rfl
  | 3, _ => exact wt (List.mem_of_getElem? (i := 324) (by decide +kernel)) rfl
  | 4, _ => exact wt (List.mem_of_getElem? (i := 326) (by decide +kernel)) rfl
  | j + 5, h => omega
theorem inX5 : ∀ w ∈ u_ws RX5 TX5 3, w ∈ wtb := by
  intro w hw
  obtain ⟨k, hk, rfl⟩ := List.mem_map.mp hw
  have hk := List.mem_range.mp hk
  match k, hk with
  | 0, _ => exact wt (List.mem_of_getElem? (i := 115) (by decide +kernel)) rfl
  | 1, _ => exact wt (List.mem_of_getElem? (i := 117) (by decide +kernel)) rfl
  | 2, _ => exact wt (List.mem_of_getElem? (i := 119) (by decide +kernel)) rfl
  | j + 3, h => omega
theorem inX6 : ∀ w ∈ u_ws RX6 TX6 9, w ∈ wtb := by
  intro w hw
  obtain ⟨k, hk, rfl⟩ := List.mem_map.mp hw
  have hk := List.mem_range.mp hk
  match k, hk with
  | 0, _ => exact wt (List.mem_of_getElem? (i := 199) (by decide +kernel)) rfl
  | 1, _ => exact wt (List.mem_of_getElem? (i := 201) (by decide +kernel)) rfl
  | 2, _ => exact wt (List.mem_of_getElem? (i := 203) (by decide +kernel)) rfl
  | 3, _ => exact wt (List.mem_of_getElem? (i := 205) (by decide +kernel)) rfl
  | 4, _ => exact wt (List.mem_of_getElem? (i := 207) (by decide +kernel)) rfl
  | 5, _ => exact wt (List.mem_of_getElem? (i := 209) (by decide +kernel)) rfl
  | 6, _ => exact wt (List.mem_of_getElem? (i := 211) (by decide +kernel)) rfl
  | 7, _ => exact wt (List.mem_of_getElem? (i := 213) (by decide +kernel)) rfl
  | 8, _ => exact wt (List.mem_of_getElem? (i := 215) (by decide +kernel)) rfl
  | j + 9, h => omega
theorem inX7 : ∀ w ∈ u_ws RX7 TX7 3, w ∈ wtb := by
  intro w hw
  obtain ⟨k, hk, rfl⟩ := List.mem_map.mp hw
  have hk := List.mem_range.mp hk
  match k, hk with
  | 0, _ => exact wt (List.mem_of_getElem? (i := 226) (by decide +kernel)) rfl
  | 1, _ => exact wt (List.mem_of_getElem? (i := 228) (by decide +kernel)) rfl
  | 2, _ => exact wt (List.mem_of_getElem? (i := 230) (by decide +kernel)) rfl
  | j + 3, h => omega
theorem inX8 : ∀ w ∈ u_ws RX8 TX8 12, w ∈ wtb := by
  intro w hw
  obtain ⟨k, hk, rfl⟩ := List.mem_map.mp hw
  have hk := List.mem_range.mp hk
  match k, hk with
  | 0, _ => exact wt (List.mem_of_getElem? (i := 279) (by decide +kernel)) rfl
  | 1, _ => exact wt (List.mem_of_getElem? (i := 281) (by decide +kernel)) rfl
  | 2, _ => exact wt (List.mem_of_getElem? (i := 283) (by decide +kernel)) rfl
  | 3, _ => exact wt (List.mem_of_getElem? (i := 285) (by decide +kernel)) rfl
  | 4, _ => exact wt (List.mem_of_getElem? (i := 287) (by decide +kernel)) rfl
  | 5, _ => exact wt (List.mem_of_getElem? (i := 289) (by decide +kernel)) rfl
  | 6, _ => exact wt (List.mem_of_getElem? (i := 291) (by decide +kernel)) rfl
  | 7, _ => exact wt (List.mem_of_getElem? (i := 293) (by decide +kernel)) rfl
  | 8, _ => exact wt (List.mem_of_getElem? (i := 295) (by decide +kernel)) rfl
  | 9, _ => exact wt (List.mem_of_getElem? (i := 297) (by decide +kernel)) rfl
  | 10, _ => exact wt (List.mem_of_getElem? (i := 299) (by decide +kernel)) rfl
  | 11, _ => exact wt (List.mem_of_getElem? (i := 301) (by decide +kernel)) rfl
  | j + 12, h => omega
theorem inX9 : ∀ w ∈ u_ws RX9 TX9 5, w ∈ wtb := by
  intro w hw
  obtain ⟨k, hk, rfl⟩ := List.mem_map.mp hw
  have hk := List.mem_range.mp hk
  match k, hk with
  | 0, _ => exact wt (List.mem_of_getElem? (i := 354) (by decide +kernel)) rfl
  | 1, _ => exact wt (List.mem_of_getElem? (i := 356) (by decide +kernel)) rfl
  | 2, _ => exact wt (List.mem_of_getElem? (i := 358) (by decide +kernel)) rfl
  | 3, _ => exact wt (List.mem_of_getElem? (i := 360) (by decide +kernel)) rfl
  | 4, _ => exact wt (List.mem_of_getElem? (i := 362) (by decide +kernel)) rfl
  | j + 5, h => omega
theorem inX10 : ∀ w ∈ u_ws RX10 TX10 28, w ∈ wtb := by
  intro w hw
  obtain ⟨k, hk, rfl⟩ := List.mem_map.mp hw
  have hk := List.mem_range.mp hk
  match k, hk with
  | 0, _ => exact wt (List.mem_of_getElem? (i := 792) (by decide +kernel)) rfl
  | 1, _ => exact wt (List.mem_of_getElem? (i := 794) (by decide +kernel)) rfl
  | 2, _ => exact wt (List.mem_of_getElem? (i := 796) (by decide +kernel)) rfl
  | 3, _ => exact wt (List.mem_of_getElem? (i := 798) (by decide +kernel)) rfl
  | 4, _ => exact wt (List.mem_of_getElem? (i := 800) (by decide +kernel)) rfl
  | 5, _ => exact wt (List.mem_of_getElem? (i := 802) (by decide +kernel)) rfl
  | 6, _ => exact wt (List.mem_of_getElem? (i := 804) (by decide +kernel)) rfl
  | 7, _ => exact wt (List.mem_of_getElem? (i := 806) (by decide +kernel)) rfl
  | 8, _ => exact wt (List.mem_of_getElem? (i := 808) (by decide +kernel)) rfl
  | 9, _ => exact wt (List.mem_of_getElem? (i := 810) (by decide +kernel)) rfl
  | 10, _ => exact wt (List.mem_of_getElem? (i := 812) (by decide +kernel)) rfl
  | 11, _ => exact wt (List.mem_of_getElem? (i := 814) (by decide +kernel)) rfl
  | 12, _ => exact wt (List.mem_of_getElem? (i := 816) (by decide +kernel)) rfl
  | 13, _ => exact wt (List.mem_of_getElem? (i := 818) (by decide +kernel)) rfl
  | 14, _ => exact wt (List.mem_of_getElem? (i := 820) (by decide +kernel)) rfl
  | 15, _ => exact wt (List.mem_of_getElem? (i := 822) (by decide +kernel)) rfl
  | 16, _ => exact wt (List.mem_of_getElem? (i := 824) (by decide +kernel)) rfl
  | 17, _ => exact wt (List.mem_of_getElem? (i := 826) (by decide +kernel)) rfl
  | 18, _ => exact wt (List.mem_of_getElem? (i := 828) (by decide +kernel)) rfl
  | 19, _ => exact wt (List.mem_of_getElem? (i := 830) (by decide +kernel)) rfl
  | 20, _ => exact wt (List.mem_of_getElem? (i := 832) (by decide +kernel)) rfl
  | 21, _ => exact wt (List.mem_of_getElem? (i := 834) (by decide +kernel)) rfl
  | 22, _ => exact wt (List.mem_of_getElem? (i := 836) (by decide +kernel)) rfl
  | 23, _ => exact wt (List.mem_of_getElem? (i := 838) (by decide +kernel)) rfl
  | 24, _ => exact wt (List.mem_of_getElem? (i := 840) (by decide +kernel)) rfl
  | 25, _ => exact wt (List.mem_of_getElem? (i := 842) (by decide +kernel)) rfl
  | 26, _ => exact wt (List.mem_of_getElem? (i := 844) (by decide +kernel)) rfl
  | 27, _ => exact wt (List.mem_of_getElem? (i := 846) (by decide +kernel)) rfl
  | j + 28, h => omega
theorem kf0_20 : Cond.fieldLink RX0 20 "RuledTables$Finding" "groups" "LRuledTables$Groups;" ∈ wtb := wt (List.mem_of_getElem? (i := 329) (by decide +kernel)) rfl
theorem kf0_29 : Cond.fieldLink RX0 29 "RuledTables$Finding" "rules" "LRuledTables$Rules;" ∈ wtb := wt (List.mem_of_getElem? (i := 330) (by decide +kernel)) rfl
theorem kf0_35 : Cond.fieldLink RX0 35 "RuledTables$Finding" "tables" "[LRuledTables$Table;" ∈ wtb := wt (List.mem_of_getElem? (i := 332) (by decide +kernel)) rfl
theorem kf0_43 : Cond.fieldLink RX0 43 "RuledTables$Finding" "placing" "LRuledTables$Placing;" ∈ wtb := wt (List.mem_of_getElem? (i := 336) (by decide +kernel)) rfl
theorem kf0_47 : Cond.fieldLink RX0 47 "RuledTables$Finding" "tableCount" "I" ∈ wtb := wt (List.mem_of_getElem? (i := 334) (by decide +kernel)) rfl
theorem kf0_51 : Cond.fieldLink RX0 51 "RuledTables$Page" "settings" "[I" ∈ wtb := wt (List.mem_of_getElem? (i := 140) (by decide +kernel)) rfl
theorem kf0_72 : Cond.fieldLink RX0 72 "RuledTables$Page" "words" "LRuledTables$Rows;" ∈ wtb := wt (List.mem_of_getElem? (i := 136) (by decide +kernel)) rfl
theorem kf1_13 : Cond.fieldLink RX1 13 "RuledTables$Groups" "leads" "[I" ∈ wtb := wt (List.mem_of_getElem? (i := 164) (by decide +kernel)) rfl
theorem kf2_17 : Cond.fieldLink RX2 17 "RuledTables$Lines" "places" "[[I" ∈ wtb := wt (List.mem_of_getElem? (i := 250) (by decide +kernel)) rfl
theorem kf2_22 : Cond.fieldLink RX2 22 "RuledTables$Lines" "counts" "[I" ∈ wtb := wt (List.mem_of_getElem? (i := 251) (by decide +kernel)) rfl
theorem kf3_14 : Cond.fieldLink RX3 14 "RuledTables$Page" "pieces" "LRuledTables$Rows;" ∈ wtb := wt (List.mem_of_getElem? (i := 132) (by decide +kernel)) rfl
theorem kf3_20 : Cond.fieldLink RX3 20 "RuledTables$Page" "words" "LRuledTables$Rows;" ∈ wtb := wt (List.mem_of_getElem? (i := 135) (by decide +kernel)) rfl
theorem kf3_32 : Cond.fieldLink RX3 32 "RuledTables$Page" "settings" "[I" ∈ wtb := wt (List.mem_of_getElem? (i := 138) (by decide +kernel)) rfl
theorem kf4_9 : Cond.fieldLink RX4 9 "RuledTables$Placing" "tables" "[I" ∈ wtb := wt (List.mem_of_getElem? (i := 310) (by decide +kernel)) rfl
theorem kf4_15 : Cond.fieldLink RX4 15 "RuledTables$Placing" "cells" "[I" ∈ wtb := wt (List.mem_of_getElem? (i := 312) (by decide +kernel)) rfl
theorem kf4_18 : Cond.fieldLink RX4 18 "RuledTables$Placing" "order" "[I" ∈ wtb := wt (List.mem_of_getElem? (i := 314) (by decide +kernel)) rfl
theorem kf4_21 : Cond.fieldLink RX4 21 "RuledTables$Rows" "count" "I" ∈ wtb := wt (List.mem_of_getElem? (i := 111) (by decide +kernel)) rfl
theorem kf4_27 : Cond.fieldLink RX4 27 "RuledTables$Placing" "count" "I" ∈ wtb := wt (List.mem_of_getElem? (i := 315) (by decide +kernel)) rfl
theorem kf4_28 : Cond.fieldLink RX4 28 "RuledTables$Placing" "loose" "I" ∈ wtb := wt (List.mem_of_getElem? (i := 316) (by decide +kernel)) rfl
theorem kf4_43 : Cond.fieldLink RX4 43 "RuledTables$Table" "lines" "LRuledTables$Lines;" ∈ wtb := wt (List.mem_of_getElem? (i := 260) (by decide +kernel)) rfl
theorem kf4_61 : Cond.fieldLink RX4 61 "RuledTables$Table" "cells" "[[I" ∈ wtb := wt (List.mem_of_getElem? (i := 269) (by decide +kernel)) rfl
theorem kf4_64 : Cond.fieldLink RX4 64 "RuledTables$Table" "words" "I" ∈ wtb := wt (List.mem_of_getElem? (i := 277) (by decide +kernel)) rfl
theorem kf5_15 : Cond.fieldLink RX5 15 "RuledTables$Rows" "most" "I" ∈ wtb := wt (List.mem_of_getElem? (i := 110) (by decide +kernel)) rfl
theorem kf5_21 : Cond.fieldLink RX5 21 "RuledTables$Rows" "numbers" "[I" ∈ wtb := wt (List.mem_of_getElem? (i := 109) (by decide +kernel)) rfl
theorem kf5_25 : Cond.fieldLink RX5 25 "RuledTables$Rows" "count" "I" ∈ wtb := wt (List.mem_of_getElem? (i := 112) (by decide +kernel)) rfl
theorem kf6_15 : Cond.fieldLink RX6 15 "RuledTables$Rule" "way" "I" ∈ wtb := wt (List.mem_of_getElem? (i := 182) (by decide +kernel)) rfl
theorem kf6_21 : Cond.fieldLink RX6 21 "RuledTables$Rule" "at" "I" ∈ wtb := wt (List.mem_of_getElem? (i := 185) (by decide +kernel)) rfl
theorem kf6_24 : Cond.fieldLink RX6 24 "RuledTables$Rule" "from" "I" ∈ wtb := wt (List.mem_of_getElem? (i := 188) (by decide +kernel)) rfl
theorem kf6_27 : Cond.fieldLink RX6 27 "RuledTables$Rule" "to" "I" ∈ wtb := wt (List.mem_of_getElem? (i := 189) (by decide +kernel)) rfl
theorem kf6_30 : Cond.fieldLink RX6 30 "RuledTables$Rule" "longest" "I" ∈ wtb := wt (List.mem_of_getElem? (i := 190) (by decide +kernel)) rfl
theorem kf6_33 : Cond.fieldLink RX6 33 "RuledTables$Rule" "pieces" "I" ∈ wtb := wt (List.mem_of_getElem? (i := 191) (by decide +kernel)) rfl
theorem kf6_36 : Cond.fieldLink RX6 36 "RuledTables$Rule" "first" "I" ∈ wtb := wt (List.mem_of_getElem? (i := 192) (by decide +kernel)) rfl
theorem kf6_39 : Cond.fieldLink RX6 39 "RuledTables$Rule" "crossings" "I" ∈ wtb := wt (List.mem_of_getElem? (i := 194) (by decide +kernel)) rfl
theorem kf6_42 : Cond.fieldLink RX6 42 "RuledTables$Rule" "table" "I" ∈ wtb := wt (List.mem_of_getElem? (i := 196) (by decide +kernel)) rfl
theorem kf7_11 : Cond.fieldLink RX7 11 "RuledTables$Rules" "all" "[LRuledTables$Rule;" ∈ wtb := wt (List.mem_of_getElem? (i := 218) (by decide +kernel)) rfl
theorem kf7_18 : Cond.fieldLink RX7 18 "RuledTables$Rules" "ofPiece" "[I" ∈ wtb := wt (List.mem_of_getElem? (i := 221) (by decide +kernel)) rfl
theorem kf7_22 : Cond.fieldLink RX7 22 "RuledTables$Rules" "count" "I" ∈ wtb := wt (List.mem_of_getElem? (i := 223) (by decide +kernel)) rfl
theorem kf7_30 : Cond.fieldLink RX7 30 "RuledTables$Page" "pieces" "LRuledTables$Rows;" ∈ wtb := wt (List.mem_of_getElem? (i := 133) (by decide +kernel)) rfl
theorem kf7_43 : Cond.fieldLink RX7 43 "RuledTables$Rows" "count" "I" ∈ wtb := wt (List.mem_of_getElem? (i := 113) (by decide +kernel)) rfl
theorem kf7_56 : Cond.fieldLink RX7 56 "RuledTables$Page" "settings" "[I" ∈ wtb := wt (List.mem_of_getElem? (i := 141) (by decide +kernel)) rfl
theorem kf7_97 : Cond.fieldLink RX7 97 "RuledTables$Rule" "first" "I" ∈ wtb := wt (List.mem_of_getElem? (i := 193) (by decide +kernel)) rfl
theorem kf7_104 : Cond.fieldLink RX7 104 "RuledTables$Rule" "crossings" "I" ∈ wtb := wt (List.mem_of_getElem? (i := 195) (by decide +kernel)) rfl
theorem kf7_115 : Cond.fieldLink RX7 115 "RuledTables$Rule" "way" "I" ∈ wtb := wt (List.mem_of_getElem? (i := 184) (by decide +kernel)) rfl
theorem kf7_118 : Cond.fieldLink RX7 118 "RuledTables$Rule" "at" "I" ∈ wtb := wt (List.mem_of_getElem? (i := 187) (by decide +kernel)) rfl
theorem kf7_121 : Cond.fieldLink RX7 121 "RuledTables$Rule" "table" "I" ∈ wtb := wt (List.mem_of_getElem? (i := 198) (by decide +kernel)) rfl
theorem kf8_20 : Cond.fieldLink RX8 20 "RuledTables$Table" "lines" "LRuledTables$Lines;" ∈ wtb := wt (List.mem_of_getElem? (i := 259) (by decide +kernel)) rfl
theorem kf8_26 : Cond.fieldLink RX8 26 "RuledTables$Table" "sides" "[Z" ∈ wtb := wt (List.mem_of_getElem? (i := 266) (by decide +kernel)) rfl
theorem kf8_30 : Cond.fieldLink RX8 30 "RuledTables$Table" "fieldCells" "[I" ∈ wtb := wt (List.mem_of_getElem? (i := 267) (by decide +kernel)) rfl
theorem kf8_36 : Cond.fieldLink RX8 36 "RuledTables$Table" "cells" "[[I" ∈ wtb := wt (List.mem_of_getElem? (i := 268) (by decide +kernel)) rfl
theorem kf8_39 : Cond.fieldLink RX8 39 "RuledTables$Table" "missedLines" "[[I" ∈ wtb := wt (List.mem_of_getElem? (i := 272) (by decide +kernel)) rfl
theorem kf8_67 : Cond.fieldLink RX8 67 "RuledTables$Table" "heads" "I" ∈ wtb := wt (List.mem_of_getElem? (i := 278) (by decide +kernel)) rfl
theorem kf8_71 : Cond.fieldLink RX8 71 "RuledTables$Table" "words" "I" ∈ wtb := wt (List.mem_of_getElem? (i := 276) (by decide +kernel)) rfl
theorem kf8_74 : Cond.fieldLink RX8 74 "RuledTables$Table" "missedCount" "I" ∈ wtb := wt (List.mem_of_getElem? (i := 274) (by decide +kernel)) rfl
theorem kf8_80 : Cond.fieldLink RX8 80 "RuledTables$Table" "rules" "I" ∈ wtb := wt (List.mem_of_getElem? (i := 262) (by decide +kernel)) rfl
theorem kf8_83 : Cond.fieldLink RX8 83 "RuledTables$Rules" "count" "I" ∈ wtb := wt (List.mem_of_getElem? (i := 224) (by decide +kernel)) rfl
theorem kf8_88 : Cond.fieldLink RX8 88 "RuledTables$Rules" "all" "[LRuledTables$Rule;" ∈ wtb := wt (List.mem_of_getElem? (i := 219) (by decide +kernel)) rfl
theorem kf8_92 : Cond.fieldLink RX8 92 "RuledTables$Rule" "table" "I" ∈ wtb := wt (List.mem_of_getElem? (i := 197) (by decide +kernel)) rfl
theorem kf8_97 : Cond.fieldLink RX8 97 "RuledTables$Rule" "way" "I" ∈ wtb := wt (List.mem_of_getElem? (i := 183) (by decide +kernel)) rfl
theorem kf8_100 : Cond.fieldLink RX8 100 "RuledTables$Rule" "at" "I" ∈ wtb := wt (List.mem_of_getElem? (i := 186) (by decide +kernel)) rfl
theorem kf8_107 : Cond.fieldLink RX8 107 "RuledTables$Lines" "counts" "[I" ∈ wtb := wt (List.mem_of_getElem? (i := 252) (by decide +kernel)) rfl
theorem kf8_110 : Cond.fieldLink RX8 110 "RuledTables$Table" "rows" "I" ∈ wtb := wt (List.mem_of_getElem? (i := 263) (by decide +kernel)) rfl
theorem kf8_113 : Cond.fieldLink RX8 113 "RuledTables$Table" "columns" "I" ∈ wtb := wt (List.mem_of_getElem? (i := 264) (by decide +kernel)) rfl
theorem kf8_149 : Cond.fieldLink RX8 149 "RuledTables$Table" "cellCount" "I" ∈ wtb := wt (List.mem_of_getElem? (i := 271) (by decide +kernel)) rfl
theorem kf9_12 : Cond.fieldLink RX9 12 "RuledTables" "page" "LRuledTables$Page;" ∈ wtb := wt (List.mem_of_getElem? (i := 349) (by decide +kernel)) rfl
theorem kf9_16 : Cond.fieldLink RX9 16 "RuledTables" "images" "[LRuledTables$Page;" ∈ wtb := wt (List.mem_of_getElem? (i := 350) (by decide +kernel)) rfl
theorem kf9_20 : Cond.fieldLink RX9 20 "RuledTables" "kept" "[Z" ∈ wtb := wt (List.mem_of_getElem? (i := 351) (by decide +kernel)) rfl
theorem kf9_27 : Cond.fieldLink RX9 27 "RuledTables" "finding" "LRuledTables$Finding;" ∈ wtb := wt (List.mem_of_getElem? (i := 352) (by decide +kernel)) rfl
theorem kf9_31 : Cond.fieldLink RX9 31 "RuledTables" "stale" "Z" ∈ wtb := wt (List.mem_of_getElem? (i := 353) (by decide +kernel)) rfl
theorem kf9_35 : Cond.fieldLink RX9 35 "RuledTables" "MOST_SETTINGS" "[I" ∈ wtb := wt (List.mem_of_getElem? (i := 369) (by decide +kernel)) rfl
theorem kf9_39 : Cond.fieldLink RX9 39 "RuledTables$Page" "settings" "[I" ∈ wtb := wt (List.mem_of_getElem? (i := 139) (by decide +kernel)) rfl
theorem kf9_53 : Cond.fieldLink RX9 53 "RuledTables$Page" "pieces" "LRuledTables$Rows;" ∈ wtb := wt (List.mem_of_getElem? (i := 134) (by decide +kernel)) rfl
theorem kf9_67 : Cond.fieldLink RX9 67 "RuledTables$Rows" "count" "I" ∈ wtb := wt (List.mem_of_getElem? (i := 114) (by decide +kernel)) rfl
theorem kf9_86 : Cond.fieldLink RX9 86 "RuledTables$Finding" "rules" "LRuledTables$Rules;" ∈ wtb := wt (List.mem_of_getElem? (i := 331) (by decide +kernel)) rfl
theorem kf9_90 : Cond.fieldLink RX9 90 "RuledTables$Rules" "ofPiece" "[I" ∈ wtb := wt (List.mem_of_getElem? (i := 222) (by decide +kernel)) rfl
theorem kf9_95 : Cond.fieldLink RX9 95 "RuledTables$Page" "words" "LRuledTables$Rows;" ∈ wtb := wt (List.mem_of_getElem? (i := 137) (by decide +kernel)) rfl
theorem kf9_98 : Cond.fieldLink RX9 98 "RuledTables$Finding" "placing" "LRuledTables$Placing;" ∈ wtb := wt (List.mem_of_getElem? (i := 337) (by decide +kernel)) rfl
theorem kf9_102 : Cond.fieldLink RX9 102 "RuledTables$Placing" "tables" "[I" ∈ wtb := wt (List.mem_of_getElem? (i := 311) (by decide +kernel)) rfl
theorem kf9_107 : Cond.fieldLink RX9 107 "RuledTables$Placing" "cells" "[I" ∈ wtb := wt (List.mem_of_getElem? (i := 313) (by decide +kernel)) rfl
theorem kf9_111 : Cond.fieldLink RX9 111 "RuledTables$Rules" "all" "[LRuledTables$Rule;" ∈ wtb := wt (List.mem_of_getElem? (i := 220) (by decide +kernel)) rfl
theorem kf9_126 : Cond.fieldLink RX9 126 "RuledTables$Finding" "tables" "[LRuledTables$Table;" ∈ wtb := wt (List.mem_of_getElem? (i := 333) (by decide +kernel)) rfl
theorem kf9_132 : Cond.fieldLink RX9 132 "RuledTables$Table" "lines" "LRuledTables$Lines;" ∈ wtb := wt (List.mem_of_getElem? (i := 261) (by decide +kernel)) rfl
theorem kf9_155 : Cond.fieldLink RX9 155 "RuledTables$Table" "cells" "[[I" ∈ wtb := wt (List.mem_of_getElem? (i := 270) (by decide +kernel)) rfl
theorem kf9_161 : Cond.fieldLink RX9 161 "RuledTables$Table" "missedCount" "I" ∈ wtb := wt (List.mem_of_getElem? (i := 275) (by decide +kernel)) rfl
theorem kf9_164 : Cond.fieldLink RX9 164 "RuledTables$Table" "missedLines" "[[I" ∈ wtb := wt (List.mem_of_getElem? (i := 273) (by decide +kernel)) rfl
theorem kf9_171 : Cond.fieldLink RX9 171 "RuledTables$Table" "columns" "I" ∈ wtb := wt (List.mem_of_getElem? (i := 265) (by decide +kernel)) rfl
theorem kf9_181 : Cond.fieldLink RX9 181 "RuledTables$Rules" "count" "I" ∈ wtb := wt (List.mem_of_getElem? (i := 225) (by decide +kernel)) rfl
theorem kf9_182 : Cond.fieldLink RX9 182 "RuledTables$Finding" "tableCount" "I" ∈ wtb := wt (List.mem_of_getElem? (i := 335) (by decide +kernel)) rfl
theorem kf9_185 : Cond.fieldLink RX9 185 "RuledTables$Placing" "loose" "I" ∈ wtb := wt (List.mem_of_getElem? (i := 317) (by decide +kernel)) rfl
theorem kf10_7 : Cond.fieldLink RX10 7 "RuledTablesModel" "drawn" "[I" ∈ wtb := wt (List.mem_of_getElem? (i := 764) (by decide +kernel)) rfl
theorem kf10_13 : Cond.fieldLink RX10 13 "RuledTablesModel" "boxes" "[I" ∈ wtb := wt (List.mem_of_getElem? (i := 766) (by decide +kernel)) rfl
theorem kf10_16 : Cond.fieldLink RX10 16 "RuledTablesModel" "how" "[I" ∈ wtb := wt (List.mem_of_getElem? (i := 768) (by decide +kernel)) rfl
theorem kf10_19 : Cond.fieldLink RX10 19 "RuledTablesModel" "label" "[I" ∈ wtb := wt (List.mem_of_getElem? (i := 770) (by decide +kernel)) rfl
theorem kf10_22 : Cond.fieldLink RX10 22 "RuledTablesModel" "rules" "[I" ∈ wtb := wt (List.mem_of_getElem? (i := 771) (by decide +kernel)) rfl
theorem kf10_25 : Cond.fieldLink RX10 25 "RuledTablesModel" "ruleOf" "[I" ∈ wtb := wt (List.mem_of_getElem? (i := 773) (by decide +kernel)) rfl
theorem kf10_28 : Cond.fieldLink RX10 28 "RuledTablesModel" "lines" "[I" ∈ wtb := wt (List.mem_of_getElem? (i := 775) (by decide +kernel)) rfl
theorem kf10_31 : Cond.fieldLink RX10 31 "RuledTablesModel" "lineMany" "[I" ∈ wtb := wt (List.mem_of_getElem? (i := 776) (by decide +kernel)) rfl
theorem kf10_34 : Cond.fieldLink RX10 34 "RuledTablesModel" "fieldFrom" "[I" ∈ wtb := wt (List.mem_of_getElem? (i := 777) (by decide +kernel)) rfl
theorem kf10_37 : Cond.fieldLink RX10 37 "RuledTablesModel" "cellFrom" "[I" ∈ wtb := wt (List.mem_of_getElem? (i := 778) (by decide +kernel)) rfl
theorem kf10_40 : Cond.fieldLink RX10 40 "RuledTablesModel" "cellOf" "[I" ∈ wtb := wt (List.mem_of_getElem? (i := 779) (by decide +kernel)) rfl
theorem kf10_43 : Cond.fieldLink RX10 43 "RuledTablesModel" "cells" "[I" ∈ wtb := wt (List.mem_of_getElem? (i := 780) (by decide +kernel)) rfl
theorem kf10_46 : Cond.fieldLink RX10 46 "RuledTablesModel" "wordTable" "[I" ∈ wtb := wt (List.mem_of_getElem? (i := 781) (by decide +kernel)) rfl
theorem kf10_49 : Cond.fieldLink RX10 49 "RuledTablesModel" "wordCell" "[I" ∈ wtb := wt (List.mem_of_getElem? (i := 782) (by decide +kernel)) rfl
theorem kf10_52 : Cond.fieldLink RX10 52 "RuledTablesModel" "coming" "[I" ∈ wtb := wt (List.mem_of_getElem? (i := 787) (by decide +kernel)) rfl
theorem kf10_55 : Cond.fieldLink RX10 55 "RuledTablesModel" "kept" "[I" ∈ wtb := wt (List.mem_of_getElem? (i := 788) (by decide +kernel)) rfl
theorem kf10_58 : Cond.fieldLink RX10 58 "RuledTablesModel" "isKept" "[Z" ∈ wtb := wt (List.mem_of_getElem? (i := 789) (by decide +kernel)) rfl
theorem kf10_74 : Cond.fieldLink RX10 74 "RuledTablesModel" "isFound" "Z" ∈ wtb := wt (List.mem_of_getElem? (i := 769) (by decide +kernel)) rfl
theorem kf10_80 : Cond.fieldLink RX10 80 "RuledTablesModel" "drawnMany" "I" ∈ wtb := wt (List.mem_of_getElem? (i := 765) (by decide +kernel)) rfl
theorem kf10_92 : Cond.fieldLink RX10 92 "RuledTablesModel" "boxMany" "I" ∈ wtb := wt (List.mem_of_getElem? (i := 767) (by decide +kernel)) rfl
theorem kf10_105 : Cond.fieldLink RX10 105 "RuledTablesModel" "ruleMany" "I" ∈ wtb := wt (List.mem_of_getElem? (i := 772) (by decide +kernel)) rfl
theorem kf10_138 : Cond.fieldLink RX10 138 "RuledTablesModel" "tableMany" "I" ∈ wtb := wt (List.mem_of_getElem? (i := 774) (by decide +kernel)) rfl
theorem kf10_211 : Cond.fieldLink RX10 211 "RuledTablesModel" "missedMany" "I" ∈ wtb := wt (List.mem_of_getElem? (i := 783) (by decide +kernel)) rfl
theorem kf10_214 : Cond.fieldLink RX10 214 "RuledTablesModel" "missedCell" "I" ∈ wtb := wt (List.mem_of_getElem? (i := 784) (by decide +kernel)) rfl
theorem kf10_217 : Cond.fieldLink RX10 217 "RuledTablesModel" "missedWay" "I" ∈ wtb := wt (List.mem_of_getElem? (i := 785) (by decide +kernel)) rfl
theorem kf10_220 : Cond.fieldLink RX10 220 "RuledTablesModel" "missedLine" "I" ∈ wtb := wt (List.mem_of_getElem? (i := 786) (by decide +kernel)) rfl
theorem kf10_267 : Cond.fieldLink RX10 267 "RuledTablesModel" "isWriting" "Z" ∈ wtb := wt (List.mem_of_getElem? (i := 791) (by decide +kernel)) rfl
theorem kf10_270 : Cond.fieldLink RX10 270 "RuledTablesModel" "keptAt" "I" ∈ wtb := wt (List.mem_of_getElem? (i := 790) (by decide +kernel)) rfl
def okV (y : MethodName) (cc : ByteArray) (nL : Nat) (ret : Option FieldType) (n : Nat) : Prop := Cond.instanceMethod y ∈ wtb ∧ Cond.selects y.cls y y ∈ wtb ∧ Cond.initialized y.cls ∈ wtb ∧ Cond.code y cc nL ret ∈ wtb ∧ (y.cls ≠ "java/lang/invoke/MethodHandle" ∧ y.cls ≠ "java/lang/invoke/VarHandle" ∧ (parseMethodDescriptor y.desc).map (fun d => d.parameters.length) = some n)
def okS (y : MethodName) (cc : ByteArray) (nL : Nat) (ret : Option FieldType) (n : Nat) : Prop := Cond.static y ∈ wtb ∧ Cond.initialized y.cls ∈ wtb ∧ Cond.code y cc nL ret ∈ wtb ∧ (y.cls ≠ "java/lang/invoke/MethodHandle" ∧ y.cls ≠ "java/lang/invoke/VarHandle" ∧ (parseMethodDescriptor y.desc).map (fun d => d.parameters.length) = some n)
theorem ok_X9_set : okV yX9_set cX9_set 4 (some .int) 2 := ⟨wt (List.mem_of_getElem? (i := 366) (by decide +kernel)) rfl, wt (List.mem_of_getElem? (i := 367) (by decide +kernel)) rfl, wt (List.mem_of_getElem? (i := 74) (by decide +kernel)) rfl, wt (List.mem_of_getElem? (i := 368) (by decide +kernel)) rfl, by decide +kernel⟩
theorem ok_X9_draw : okV yX9_draw cX9_draw 5 (some .int) 4 := ⟨wt (List.mem_of_getElem? (i := 372) (by decide +kernel)) rfl, wt (List.mem_of_getElem? (i := 373) (by decide +kernel)) rfl, wt (List.mem_of_getElem? (i := 74) (by decide +kernel)) rfl, wt (List.mem_of_getElem? (i := 374) (by decide +kernel)) rfl, by decide +kernel⟩
theorem ok_X9_isWay : okS yX9_isWay cX9_isWay 1 (some .boolean) 1 := ⟨wt (List.mem_of_getElem? (i := 376) (by decide +kernel)) rfl, wt (List.mem_of_getElem? (i := 74) (by decide +kernel)) rfl, wt (List.mem_of_getElem? (i := 377) (by decide +kernel)) rfl, by decide +kernel⟩
theorem ok_X9_isPlace : okS yX9_isPlace cX9_isPlace 1 (some .boolean) 1 := ⟨wt (List.mem_of_getElem? (i := 379) (by decide +kernel)) rfl, wt (List.mem_of_getElem? (i := 74) (by decide +kernel)) rfl, wt (List.mem_of_getElem? (i := 380) (by decide +kernel)) rfl, by decide +kernel⟩
theorem ok_X9_isStretch : okS yX9_isStretch cX9_isStretch 2 (some .boolean) 2 := ⟨wt (List.mem_of_getElem? (i := 382) (by decide +kernel)) rfl, wt (List.mem_of_getElem? (i := 74) (by decide +kernel)) rfl, wt (List.mem_of_getElem? (i := 383) (by decide +kernel)) rfl, by decide +kernel⟩
theorem ok_X5_isFull : okV yX5_isFull cX5_isFull 1 (some .boolean) 0 := ⟨wt (List.mem_of_getElem? (i := 385) (by decide +kernel)) rfl, wt (List.mem_of_getElem? (i := 386) (by decide +kernel)) rfl, wt (List.mem_of_getElem? (i := 76) (by decide +kernel)) rfl, wt (List.mem_of_getElem? (i := 387) (by decide +kernel)) rfl, by decide +kernel⟩
theorem ok_X5_add : okV yX5_add cX5_add 6 none 4 := ⟨wt (List.mem_of_getElem? (i := 389) (by decide +kernel)) rfl, wt (List.mem_of_getElem? (i := 390) (by decide +kernel)) rfl, wt (List.mem_of_getElem? (i := 76) (by decide +kernel)) rfl, wt (List.mem_of_getElem? (i := 391) (by decide +kernel)) rfl, by decide +kernel⟩
theorem ok_X9_erase : okV yX9_erase cX9_erase 2 (some .int) 1 := ⟨wt (List.mem_of_getElem? (i := 394) (by decide +kernel)) rfl, wt (List.mem_of_getElem? (i := 395) (by decide +kernel)) rfl, wt (List.mem_of_getElem? (i := 74) (by decide +kernel)) rfl, wt (List.mem_of_getElem? (i := 396) (by decide +kernel)) rfl, by decide +kernel⟩
theorem ok_X5_has : okV yX5_has cX5_has 2 (some .boolean) 1 := ⟨wt (List.mem_of_getElem? (i := 398) (by decide +kernel)) rfl, wt (List.mem_of_getElem? (i := 399) (by decide +kernel)) rfl, wt (List.mem_of_getElem? (i := 76) (by decide +kernel)) rfl, wt (List.mem_of_getElem? (i := 400) (by decide +kernel)) rfl, by decide +kernel⟩
theorem ok_X5_remove : okV yX5_remove cX5_remove 4 none 1 := ⟨wt (List.mem_of_getElem? (i := 402) (by decide +kernel)) rfl, wt (List.mem_of_getElem? (i := 403) (by decide +kernel)) rfl, wt (List.mem_of_getElem? (i := 76) (by decide +kernel)) rfl, wt (List.mem_of_getElem? (i := 404) (by decide +kernel)) rfl, by decide +kernel⟩
theorem ok_X9_piece : okV yX9_piece cX9_piece 3 (some .int) 2 := ⟨wt (List.mem_of_getElem? (i := 407) (by decide +kernel)) rfl, wt (List.mem_of_getElem? (i := 408) (by decide +kernel)) rfl, wt (List.mem_of_getElem? (i := 74) (by decide +kernel)) rfl, wt (List.mem_of_getElem? (i := 409) (by decide +kernel)) rfl, by decide +kernel⟩
theorem ok_X5_number : okV yX5_number cX5_number 4 (some .int) 2 := ⟨wt (List.mem_of_getElem? (i := 411) (by decide +kernel)) rfl, wt (List.mem_of_getElem? (i := 412) (by decide +kernel)) rfl, wt (List.mem_of_getElem? (i := 76) (by decide +kernel)) rfl, wt (List.mem_of_getElem? (i := 413) (by decide +kernel)) rfl, by decide +kernel⟩
theorem ok_X9_found : okV yX9_found cX9_found 1 (some (.object "RuledTables$Finding")) 0 := ⟨wt (List.mem_of_getElem? (i := 416) (by decide +kernel)) rfl, wt (List.mem_of_getElem? (i := 0) (by decide +kernel)) rfl, wt (List.mem_of_getElem? (i := 74) (by decide +kernel)) rfl, wt (List.mem_of_getElem? (i := 417) (by decide +kernel)) rfl, by decide +kernel⟩
theorem ok_X0_find : okV yX0_find cX0_find 4 none 1 := ⟨wt (List.mem_of_getElem? (i := 419) (by decide +kernel)) rfl, wt (List.mem_of_getElem? (i := 420) (by decide +kernel)) rfl, wt (List.mem_of_getElem? (i := 78) (by decide +kernel)) rfl, wt (List.mem_of_getElem? (i := 421) (by decide +kernel)) rfl, by decide +kernel⟩
theorem ok_X7_find : okV yX7_find cX7_find 3 none 2 := ⟨wt (List.mem_of_getElem? (i := 423) (by decide +kernel)) rfl, wt (List.mem_of_getElem? (i := 424) (by decide +kernel)) rfl, wt (List.mem_of_getElem? (i := 80) (by decide +kernel)) rfl, wt (List.mem_of_getElem? (i := 425) (by decide +kernel)) rfl, by decide +kernel⟩
theorem ok_X7_joinNear : okS yX7_joinNear cX7_joinNear 5 none 2 := ⟨wt (List.mem_of_getElem? (i := 427) (by decide +kernel)) rfl, wt (List.mem_of_getElem? (i := 80) (by decide +kernel)) rfl, wt (List.mem_of_getElem? (i := 428) (by decide +kernel)) rfl, by decide +kernel⟩
theorem ok_X1_part : okV yX1_part cX1_part 3 none 1 := ⟨wt (List.mem_of_getElem? (i := 430) (by decide +kernel)) rfl, wt (List.mem_of_getElem? (i := 431) (by decide +kernel)) rfl, wt (List.mem_of_getElem? (i := 79) (by decide +kernel)) rfl, wt (List.mem_of_getElem? (i := 432) (by decide +kernel)) rfl, by decide +kernel⟩
theorem ok_X7_areNear : okS yX7_areNear cX7_areNear 7 (some .boolean) 4 := ⟨wt (List.mem_of_getElem? (i := 434) (by decide +kernel)) rfl, wt (List.mem_of_getElem? (i := 80) (by decide +kernel)) rfl, wt (List.mem_of_getElem? (i := 435) (by decide +kernel)) rfl, by decide +kernel⟩
theorem ok_X1_join : okV yX1_join cX1_join 5 none 2 := ⟨wt (List.mem_of_getElem? (i := 445) (by decide +kernel)) rfl, wt (List.mem_of_getElem? (i := 446) (by decide +kernel)) rfl, wt (List.mem_of_getElem? (i := 79) (by decide +kernel)) rfl, wt (List.mem_of_getElem? (i := 447) (by decide +kernel)) rfl, by decide +kernel⟩
theorem ok_X1_firstOf : okV yX1_firstOf cX1_firstOf 4 (some .int) 1 := ⟨wt (List.mem_of_getElem? (i := 449) (by decide +kernel)) rfl, wt (List.mem_of_getElem? (i := 450) (by decide +kernel)) rfl, wt (List.mem_of_getElem? (i := 79) (by decide +kernel)) rfl, wt (List.mem_of_getElem? (i := 451) (by decide +kernel)) rfl, by decide +kernel⟩
theorem ok_X7_gather : okV yX7_gather cX7_gather 5 none 2 := ⟨wt (List.mem_of_getElem? (i := 455) (by decide +kernel)) rfl, wt (List.mem_of_getElem? (i := 1) (by decide +kernel)) rfl, wt (List.mem_of_getElem? (i := 80) (by decide +kernel)) rfl, wt (List.mem_of_getElem? (i := 456) (by decide +kernel)) rfl, by decide +kernel⟩
theorem ok_X6_begin : okV yX6_begin cX6_begin 3 none 2 := ⟨wt (List.mem_of_getElem? (i := 459) (by decide +kernel)) rfl, wt (List.mem_of_getElem? (i := 460) (by decide +kernel)) rfl, wt (List.mem_of_getElem? (i := 81) (by decide +kernel)) rfl, wt (List.mem_of_getElem? (i := 461) (by decide +kernel)) rfl, by decide +kernel⟩
theorem ok_X6_takeIn : okV yX6_takeIn cX6_takeIn 5 none 2 := ⟨wt (List.mem_of_getElem? (i := 464) (by decide +kernel)) rfl, wt (List.mem_of_getElem? (i := 465) (by decide +kernel)) rfl, wt (List.mem_of_getElem? (i := 81) (by decide +kernel)) rfl, wt (List.mem_of_getElem? (i := 466) (by decide +kernel)) rfl, by decide +kernel⟩
theorem ok_X7_sort : okV yX7_sort cX7_sort 4 none 0 := ⟨wt (List.mem_of_getElem? (i := 471) (by decide +kernel)) rfl, wt (List.mem_of_getElem? (i := 2) (by decide +kernel)) rfl, wt (List.mem_of_getElem? (i := 80) (by decide +kernel)) rfl, wt (List.mem_of_getElem? (i := 472) (by decide +kernel)) rfl, by decide +kernel⟩
theorem ok_X6_comesBefore : okV yX6_comesBefore cX6_comesBefore 2 (some .boolean) 1 := ⟨wt (List.mem_of_getElem? (i := 474) (by decide +kernel)) rfl, wt (List.mem_of_getElem? (i := 475) (by decide +kernel)) rfl, wt (List.mem_of_getElem? (i := 81) (by decide +kernel)) rfl, wt (List.mem_of_getElem? (i := 476) (by decide +kernel)) rfl, by decide +kernel⟩
theorem ok_X7_tellPieces : okV yX7_tellPieces cX7_tellPieces 4 none 2 := ⟨wt (List.mem_of_getElem? (i := 479) (by decide +kernel)) rfl, wt (List.mem_of_getElem? (i := 3) (by decide +kernel)) rfl, wt (List.mem_of_getElem? (i := 80) (by decide +kernel)) rfl, wt (List.mem_of_getElem? (i := 480) (by decide +kernel)) rfl, by decide +kernel⟩
theorem ok_X7_joinCrossing : okV yX7_joinCrossing cX7_joinCrossing 5 none 2 := ⟨wt (List.mem_of_getElem? (i := 482) (by decide +kernel)) rfl, wt (List.mem_of_getElem? (i := 483) (by decide +kernel)) rfl, wt (List.mem_of_getElem? (i := 80) (by decide +kernel)) rfl, wt (List.mem_of_getElem? (i := 484) (by decide +kernel)) rfl, by decide +kernel⟩
theorem ok_X6_crosses : okV yX6_crosses cX6_crosses 3 (some .boolean) 2 := ⟨wt (List.mem_of_getElem? (i := 486) (by decide +kernel)) rfl, wt (List.mem_of_getElem? (i := 487) (by decide +kernel)) rfl, wt (List.mem_of_getElem? (i := 81) (by decide +kernel)) rfl, wt (List.mem_of_getElem? (i := 488) (by decide +kernel)) rfl, by decide +kernel⟩
theorem ok_X6_covers : okV yX6_covers cX6_covers 4 (some .boolean) 3 := ⟨wt (List.mem_of_getElem? (i := 490) (by decide +kernel)) rfl, wt (List.mem_of_getElem? (i := 491) (by decide +kernel)) rfl, wt (List.mem_of_getElem? (i := 81) (by decide +kernel)) rfl, wt (List.mem_of_getElem? (i := 492) (by decide +kernel)) rfl, by decide +kernel⟩
theorem ok_X7_numberTables : okV yX7_numberTables cX7_numberTables 5 (some .int) 1 := ⟨wt (List.mem_of_getElem? (i := 494) (by decide +kernel)) rfl, wt (List.mem_of_getElem? (i := 495) (by decide +kernel)) rfl, wt (List.mem_of_getElem? (i := 80) (by decide +kernel)) rfl, wt (List.mem_of_getElem? (i := 496) (by decide +kernel)) rfl, by decide +kernel⟩
theorem ok_X7_countPlaces : okV yX7_countPlaces cX7_countPlaces 8 (some .int) 3 := ⟨wt (List.mem_of_getElem? (i := 499) (by decide +kernel)) rfl, wt (List.mem_of_getElem? (i := 4) (by decide +kernel)) rfl, wt (List.mem_of_getElem? (i := 80) (by decide +kernel)) rfl, wt (List.mem_of_getElem? (i := 500) (by decide +kernel)) rfl, by decide +kernel⟩
theorem ok_X7_giveTable : okV yX7_giveTable cX7_giveTable 5 none 3 := ⟨wt (List.mem_of_getElem? (i := 503) (by decide +kernel)) rfl, wt (List.mem_of_getElem? (i := 5) (by decide +kernel)) rfl, wt (List.mem_of_getElem? (i := 80) (by decide +kernel)) rfl, wt (List.mem_of_getElem? (i := 504) (by decide +kernel)) rfl, by decide +kernel⟩
theorem ok_X8_find : okV yX8_find cX8_find 5 none 4 := ⟨wt (List.mem_of_getElem? (i := 506) (by decide +kernel)) rfl, wt (List.mem_of_getElem? (i := 507) (by decide +kernel)) rfl, wt (List.mem_of_getElem? (i := 82) (by decide +kernel)) rfl, wt (List.mem_of_getElem? (i := 508) (by decide +kernel)) rfl, by decide +kernel⟩
theorem ok_X8_takeLines : okV yX8_takeLines cX8_takeLines 4 none 2 := ⟨wt (List.mem_of_getElem? (i := 511) (by decide +kernel)) rfl, wt (List.mem_of_getElem? (i := 6) (by decide +kernel)) rfl, wt (List.mem_of_getElem? (i := 82) (by decide +kernel)) rfl, wt (List.mem_of_getElem? (i := 512) (by decide +kernel)) rfl, by decide +kernel⟩
theorem ok_X2_clear : okV yX2_clear cX2_clear 1 none 0 := ⟨wt (List.mem_of_getElem? (i := 514) (by decide +kernel)) rfl, wt (List.mem_of_getElem? (i := 515) (by decide +kernel)) rfl, wt (List.mem_of_getElem? (i := 83) (by decide +kernel)) rfl, wt (List.mem_of_getElem? (i := 516) (by decide +kernel)) rfl, by decide +kernel⟩
theorem ok_X2_add : okV yX2_add cX2_add 4 none 2 := ⟨wt (List.mem_of_getElem? (i := 518) (by decide +kernel)) rfl, wt (List.mem_of_getElem? (i := 519) (by decide +kernel)) rfl, wt (List.mem_of_getElem? (i := 83) (by decide +kernel)) rfl, wt (List.mem_of_getElem? (i := 520) (by decide +kernel)) rfl, by decide +kernel⟩
theorem ok_X8_hasRoom : okV yX8_hasRoom cX8_hasRoom 1 (some .boolean) 0 := ⟨wt (List.mem_of_getElem? (i := 523) (by decide +kernel)) rfl, wt (List.mem_of_getElem? (i := 7) (by decide +kernel)) rfl, wt (List.mem_of_getElem? (i := 82) (by decide +kernel)) rfl, wt (List.mem_of_getElem? (i := 524) (by decide +kernel)) rfl, by decide +kernel⟩
theorem ok_X8_markSides : okV yX8_markSides cX8_markSides 5 none 3 := ⟨wt (List.mem_of_getElem? (i := 527) (by decide +kernel)) rfl, wt (List.mem_of_getElem? (i := 8) (by decide +kernel)) rfl, wt (List.mem_of_getElem? (i := 82) (by decide +kernel)) rfl, wt (List.mem_of_getElem? (i := 528) (by decide +kernel)) rfl, by decide +kernel⟩
theorem ok_X8_markSidesOf : okV yX8_markSidesOf cX8_markSidesOf 7 none 2 := ⟨wt (List.mem_of_getElem? (i := 531) (by decide +kernel)) rfl, wt (List.mem_of_getElem? (i := 9) (by decide +kernel)) rfl, wt (List.mem_of_getElem? (i := 82) (by decide +kernel)) rfl, wt (List.mem_of_getElem? (i := 532) (by decide +kernel)) rfl, by decide +kernel⟩
theorem ok_X2_lineAt : okV yX2_lineAt cX2_lineAt 4 (some .int) 2 := ⟨wt (List.mem_of_getElem? (i := 534) (by decide +kernel)) rfl, wt (List.mem_of_getElem? (i := 535) (by decide +kernel)) rfl, wt (List.mem_of_getElem? (i := 83) (by decide +kernel)) rfl, wt (List.mem_of_getElem? (i := 536) (by decide +kernel)) rfl, by decide +kernel⟩
theorem ok_X8_sideOf : okV yX8_sideOf cX8_sideOf 7 (some .int) 3 := ⟨wt (List.mem_of_getElem? (i := 538) (by decide +kernel)) rfl, wt (List.mem_of_getElem? (i := 539) (by decide +kernel)) rfl, wt (List.mem_of_getElem? (i := 82) (by decide +kernel)) rfl, wt (List.mem_of_getElem? (i := 540) (by decide +kernel)) rfl, by decide +kernel⟩
theorem ok_X2_placeOf : okV yX2_placeOf cX2_placeOf 3 (some .int) 2 := ⟨wt (List.mem_of_getElem? (i := 542) (by decide +kernel)) rfl, wt (List.mem_of_getElem? (i := 543) (by decide +kernel)) rfl, wt (List.mem_of_getElem? (i := 83) (by decide +kernel)) rfl, wt (List.mem_of_getElem? (i := 544) (by decide +kernel)) rfl, by decide +kernel⟩
theorem ok_X8_joinFields : okV yX8_joinFields cX8_joinFields 5 none 1 := ⟨wt (List.mem_of_getElem? (i := 548) (by decide +kernel)) rfl, wt (List.mem_of_getElem? (i := 10) (by decide +kernel)) rfl, wt (List.mem_of_getElem? (i := 82) (by decide +kernel)) rfl, wt (List.mem_of_getElem? (i := 549) (by decide +kernel)) rfl, by decide +kernel⟩
theorem ok_X8_hasRuled : okV yX8_hasRuled cX8_hasRuled 5 (some .boolean) 3 := ⟨wt (List.mem_of_getElem? (i := 552) (by decide +kernel)) rfl, wt (List.mem_of_getElem? (i := 553) (by decide +kernel)) rfl, wt (List.mem_of_getElem? (i := 82) (by decide +kernel)) rfl, wt (List.mem_of_getElem? (i := 554) (by decide +kernel)) rfl, by decide +kernel⟩
theorem ok_X8_numberCells : okV yX8_numberCells cX8_numberCells 6 none 1 := ⟨wt (List.mem_of_getElem? (i := 558) (by decide +kernel)) rfl, wt (List.mem_of_getElem? (i := 11) (by decide +kernel)) rfl, wt (List.mem_of_getElem? (i := 82) (by decide +kernel)) rfl, wt (List.mem_of_getElem? (i := 559) (by decide +kernel)) rfl, by decide +kernel⟩
theorem ok_X8_beginCell : okV yX8_beginCell cX8_beginCell 3 none 2 := ⟨wt (List.mem_of_getElem? (i := 563) (by decide +kernel)) rfl, wt (List.mem_of_getElem? (i := 12) (by decide +kernel)) rfl, wt (List.mem_of_getElem? (i := 82) (by decide +kernel)) rfl, wt (List.mem_of_getElem? (i := 564) (by decide +kernel)) rfl, by decide +kernel⟩
theorem ok_X8_widenCell : okV yX8_widenCell cX8_widenCell 6 none 3 := ⟨wt (List.mem_of_getElem? (i := 567) (by decide +kernel)) rfl, wt (List.mem_of_getElem? (i := 13) (by decide +kernel)) rfl, wt (List.mem_of_getElem? (i := 82) (by decide +kernel)) rfl, wt (List.mem_of_getElem? (i := 568) (by decide +kernel)) rfl, by decide +kernel⟩
theorem ok_X8_markBroken : okV yX8_markBroken cX8_markBroken 2 none 0 := ⟨wt (List.mem_of_getElem? (i := 571) (by decide +kernel)) rfl, wt (List.mem_of_getElem? (i := 14) (by decide +kernel)) rfl, wt (List.mem_of_getElem? (i := 82) (by decide +kernel)) rfl, wt (List.mem_of_getElem? (i := 572) (by decide +kernel)) rfl, by decide +kernel⟩
theorem ok_X8_markOpen : okV yX8_markOpen cX8_markOpen 2 none 0 := ⟨wt (List.mem_of_getElem? (i := 575) (by decide +kernel)) rfl, wt (List.mem_of_getElem? (i := 15) (by decide +kernel)) rfl, wt (List.mem_of_getElem? (i := 82) (by decide +kernel)) rfl, wt (List.mem_of_getElem? (i := 576) (by decide +kernel)) rfl, by decide +kernel⟩
theorem ok_X8_cellOf : okV yX8_cellOf cX8_cellOf 4 (some .int) 2 := ⟨wt (List.mem_of_getElem? (i := 578) (by decide +kernel)) rfl, wt (List.mem_of_getElem? (i := 579) (by decide +kernel)) rfl, wt (List.mem_of_getElem? (i := 82) (by decide +kernel)) rfl, wt (List.mem_of_getElem? (i := 580) (by decide +kernel)) rfl, by decide +kernel⟩
theorem ok_X8_openUnless : okV yX8_openUnless cX8_openUnless 3 none 2 := ⟨wt (List.mem_of_getElem? (i := 583) (by decide +kernel)) rfl, wt (List.mem_of_getElem? (i := 16) (by decide +kernel)) rfl, wt (List.mem_of_getElem? (i := 82) (by decide +kernel)) rfl, wt (List.mem_of_getElem? (i := 584) (by decide +kernel)) rfl, by decide +kernel⟩
theorem ok_X8_hasCell : okV yX8_hasCell cX8_hasCell 2 (some .boolean) 1 := ⟨wt (List.mem_of_getElem? (i := 586) (by decide +kernel)) rfl, wt (List.mem_of_getElem? (i := 587) (by decide +kernel)) rfl, wt (List.mem_of_getElem? (i := 82) (by decide +kernel)) rfl, wt (List.mem_of_getElem? (i := 588) (by decide +kernel)) rfl, by decide +kernel⟩
theorem ok_X8_countHeads : okV yX8_countHeads cX8_countHeads 2 (some .int) 0 := ⟨wt (List.mem_of_getElem? (i := 591) (by decide +kernel)) rfl, wt (List.mem_of_getElem? (i := 17) (by decide +kernel)) rfl, wt (List.mem_of_getElem? (i := 82) (by decide +kernel)) rfl, wt (List.mem_of_getElem? (i := 592) (by decide +kernel)) rfl, by decide +kernel⟩
theorem ok_X8_isOneColumnWide : okV yX8_isOneColumnWide cX8_isOneColumnWide 3 (some .boolean) 1 := ⟨wt (List.mem_of_getElem? (i := 595) (by decide +kernel)) rfl, wt (List.mem_of_getElem? (i := 18) (by decide +kernel)) rfl, wt (List.mem_of_getElem? (i := 82) (by decide +kernel)) rfl, wt (List.mem_of_getElem? (i := 596) (by decide +kernel)) rfl, by decide +kernel⟩
theorem ok_X4_find : okV yX4_find cX4_find 5 none 3 := ⟨wt (List.mem_of_getElem? (i := 598) (by decide +kernel)) rfl, wt (List.mem_of_getElem? (i := 599) (by decide +kernel)) rfl, wt (List.mem_of_getElem? (i := 84) (by decide +kernel)) rfl, wt (List.mem_of_getElem? (i := 600) (by decide +kernel)) rfl, by decide +kernel⟩
theorem ok_X4_place : okV yX4_place cX4_place 12 none 4 := ⟨wt (List.mem_of_getElem? (i := 603) (by decide +kernel)) rfl, wt (List.mem_of_getElem? (i := 19) (by decide +kernel)) rfl, wt (List.mem_of_getElem? (i := 84) (by decide +kernel)) rfl, wt (List.mem_of_getElem? (i := 604) (by decide +kernel)) rfl, by decide +kernel⟩
theorem ok_X2_lineBefore : okV yX2_lineBefore cX2_lineBefore 4 (some .int) 2 := ⟨wt (List.mem_of_getElem? (i := 607) (by decide +kernel)) rfl, wt (List.mem_of_getElem? (i := 608) (by decide +kernel)) rfl, wt (List.mem_of_getElem? (i := 83) (by decide +kernel)) rfl, wt (List.mem_of_getElem? (i := 609) (by decide +kernel)) rfl, by decide +kernel⟩
theorem ok_X4_putInOrder : okV yX4_putInOrder cX4_putInOrder 4 none 2 := ⟨wt (List.mem_of_getElem? (i := 614) (by decide +kernel)) rfl, wt (List.mem_of_getElem? (i := 20) (by decide +kernel)) rfl, wt (List.mem_of_getElem? (i := 84) (by decide +kernel)) rfl, wt (List.mem_of_getElem? (i := 615) (by decide +kernel)) rfl, by decide +kernel⟩
theorem ok_X4_isReadBefore : okS yX4_isReadBefore cX4_isReadBefore 5 (some .boolean) 3 := ⟨wt (List.mem_of_getElem? (i := 617) (by decide +kernel)) rfl, wt (List.mem_of_getElem? (i := 84) (by decide +kernel)) rfl, wt (List.mem_of_getElem? (i := 618) (by decide +kernel)) rfl, by decide +kernel⟩
theorem ok_X8_findMissed : okV yX8_findMissed cX8_findMissed 5 none 3 := ⟨wt (List.mem_of_getElem? (i := 620) (by decide +kernel)) rfl, wt (List.mem_of_getElem? (i := 621) (by decide +kernel)) rfl, wt (List.mem_of_getElem? (i := 82) (by decide +kernel)) rfl, wt (List.mem_of_getElem? (i := 622) (by decide +kernel)) rfl, by decide +kernel⟩
theorem ok_X8_findMissedIn : okV yX8_findMissedIn cX8_findMissedIn 9 none 5 := ⟨wt (List.mem_of_getElem? (i := 625) (by decide +kernel)) rfl, wt (List.mem_of_getElem? (i := 21) (by decide +kernel)) rfl, wt (List.mem_of_getElem? (i := 82) (by decide +kernel)) rfl, wt (List.mem_of_getElem? (i := 626) (by decide +kernel)) rfl, by decide +kernel⟩
theorem ok_X4_keepClear : okV yX4_keepClear cX4_keepClear 11 (some .boolean) 5 := ⟨wt (List.mem_of_getElem? (i := 628) (by decide +kernel)) rfl, wt (List.mem_of_getElem? (i := 629) (by decide +kernel)) rfl, wt (List.mem_of_getElem? (i := 84) (by decide +kernel)) rfl, wt (List.mem_of_getElem? (i := 630) (by decide +kernel)) rfl, by decide +kernel⟩
theorem ok_X4_isIn : okV yX4_isIn cX4_isIn 4 (some .boolean) 3 := ⟨wt (List.mem_of_getElem? (i := 633) (by decide +kernel)) rfl, wt (List.mem_of_getElem? (i := 22) (by decide +kernel)) rfl, wt (List.mem_of_getElem? (i := 84) (by decide +kernel)) rfl, wt (List.mem_of_getElem? (i := 634) (by decide +kernel)) rfl, by decide +kernel⟩
theorem ok_X8_addMissed : okV yX8_addMissed cX8_addMissed 4 none 3 := ⟨wt (List.mem_of_getElem? (i := 637) (by decide +kernel)) rfl, wt (List.mem_of_getElem? (i := 23) (by decide +kernel)) rfl, wt (List.mem_of_getElem? (i := 82) (by decide +kernel)) rfl, wt (List.mem_of_getElem? (i := 638) (by decide +kernel)) rfl, by decide +kernel⟩
theorem ok_X9_write : okV yX9_write cX9_write 5 (some .int) 4 := ⟨wt (List.mem_of_getElem? (i := 640) (by decide +kernel)) rfl, wt (List.mem_of_getElem? (i := 641) (by decide +kernel)) rfl, wt (List.mem_of_getElem? (i := 74) (by decide +kernel)) rfl, wt (List.mem_of_getElem? (i := 642) (by decide +kernel)) rfl, by decide +kernel⟩
theorem ok_X9_strike : okV yX9_strike cX9_strike 2 (some .int) 1 := ⟨wt (List.mem_of_getElem? (i := 644) (by decide +kernel)) rfl, wt (List.mem_of_getElem? (i := 645) (by decide +kernel)) rfl, wt (List.mem_of_getElem? (i := 74) (by decide +kernel)) rfl, wt (List.mem_of_getElem? (i := 646) (by decide +kernel)) rfl, by decide +kernel⟩
theorem ok_X9_word : okV yX9_word cX9_word 4 (some .int) 2 := ⟨wt (List.mem_of_getElem? (i := 648) (by decide +kernel)) rfl, wt (List.mem_of_getElem? (i := 649) (by decide +kernel)) rfl, wt (List.mem_of_getElem? (i := 74) (by decide +kernel)) rfl, wt (List.mem_of_getElem? (i := 650) (by decide +kernel)) rfl, by decide +kernel⟩
theorem ok_X9_rule : okV yX9_rule cX9_rule 4 (some .int) 2 := ⟨wt (List.mem_of_getElem? (i := 652) (by decide +kernel)) rfl, wt (List.mem_of_getElem? (i := 653) (by decide +kernel)) rfl, wt (List.mem_of_getElem? (i := 74) (by decide +kernel)) rfl, wt (List.mem_of_getElem? (i := 654) (by decide +kernel)) rfl, by decide +kernel⟩
theorem ok_X7_has : okV yX7_has cX7_has 2 (some .boolean) 1 := ⟨wt (List.mem_of_getElem? (i := 656) (by decide +kernel)) rfl, wt (List.mem_of_getElem? (i := 657) (by decide +kernel)) rfl, wt (List.mem_of_getElem? (i := 80) (by decide +kernel)) rfl, wt (List.mem_of_getElem? (i := 658) (by decide +kernel)) rfl, by decide +kernel⟩
theorem ok_X6_tell : okV yX6_tell cX6_tell 2 (some .int) 1 := ⟨wt (List.mem_of_getElem? (i := 660) (by decide +kernel)) rfl, wt (List.mem_of_getElem? (i := 661) (by decide +kernel)) rfl, wt (List.mem_of_getElem? (i := 81) (by decide +kernel)) rfl, wt (List.mem_of_getElem? (i := 662) (by decide +kernel)) rfl, by decide +kernel⟩
theorem ok_X9_cross : okV yX9_cross cX9_cross 4 (some .int) 2 := ⟨wt (List.mem_of_getElem? (i := 664) (by decide +kernel)) rfl, wt (List.mem_of_getElem? (i := 665) (by decide +kernel)) rfl, wt (List.mem_of_getElem? (i := 74) (by decide +kernel)) rfl, wt (List.mem_of_getElem? (i := 666) (by decide +kernel)) rfl, by decide +kernel⟩
theorem ok_X9_table : okV yX9_table cX9_table 4 (some .int) 2 := ⟨wt (List.mem_of_getElem? (i := 669) (by decide +kernel)) rfl, wt (List.mem_of_getElem? (i := 670) (by decide +kernel)) rfl, wt (List.mem_of_getElem? (i := 74) (by decide +kernel)) rfl, wt (List.mem_of_getElem? (i := 671) (by decide +kernel)) rfl, by decide +kernel⟩
theorem ok_X0_has : okV yX0_has cX0_has 2 (some .boolean) 1 := ⟨wt (List.mem_of_getElem? (i := 673) (by decide +kernel)) rfl, wt (List.mem_of_getElem? (i := 674) (by decide +kernel)) rfl, wt (List.mem_of_getElem? (i := 78) (by decide +kernel)) rfl, wt (List.mem_of_getElem? (i := 675) (by decide +kernel)) rfl, by decide +kernel⟩
theorem ok_X8_tell : okV yX8_tell cX8_tell 2 (some .int) 1 := ⟨wt (List.mem_of_getElem? (i := 677) (by decide +kernel)) rfl, wt (List.mem_of_getElem? (i := 678) (by decide +kernel)) rfl, wt (List.mem_of_getElem? (i := 82) (by decide +kernel)) rfl, wt (List.mem_of_getElem? (i := 679) (by decide +kernel)) rfl, by decide +kernel⟩
theorem ok_X8_countWhole : okV yX8_countWhole cX8_countWhole 3 (some .int) 0 := ⟨wt (List.mem_of_getElem? (i := 682) (by decide +kernel)) rfl, wt (List.mem_of_getElem? (i := 24) (by decide +kernel)) rfl, wt (List.mem_of_getElem? (i := 82) (by decide +kernel)) rfl, wt (List.mem_of_getElem? (i := 683) (by decide +kernel)) rfl, by decide +kernel⟩
theorem ok_X9_edge : okV yX9_edge cX9_edge 5 (some .int) 3 := ⟨wt (List.mem_of_getElem? (i := 685) (by decide +kernel)) rfl, wt (List.mem_of_getElem? (i := 686) (by decide +kernel)) rfl, wt (List.mem_of_getElem? (i := 74) (by decide +kernel)) rfl, wt (List.mem_of_getElem? (i := 687) (by decide +kernel)) rfl, by decide +kernel⟩
theorem ok_X9_ruled : okV yX9_ruled cX9_ruled 7 (some .int) 4 := ⟨wt (List.mem_of_getElem? (i := 690) (by decide +kernel)) rfl, wt (List.mem_of_getElem? (i := 691) (by decide +kernel)) rfl, wt (List.mem_of_getElem? (i := 74) (by decide +kernel)) rfl, wt (List.mem_of_getElem? (i := 692) (by decide +kernel)) rfl, by decide +kernel⟩
theorem ok_X9_at : okV yX9_at cX9_at 6 (some .int) 3 := ⟨wt (List.mem_of_getElem? (i := 696) (by decide +kernel)) rfl, wt (List.mem_of_getElem? (i := 697) (by decide +kernel)) rfl, wt (List.mem_of_getElem? (i := 74) (by decide +kernel)) rfl, wt (List.mem_of_getElem? (i := 698) (by decide +kernel)) rfl, by decide +kernel⟩
theorem ok_X9_cell : okV yX9_cell cX9_cell 5 (some .int) 3 := ⟨wt (List.mem_of_getElem? (i := 701) (by decide +kernel)) rfl, wt (List.mem_of_getElem? (i := 702) (by decide +kernel)) rfl, wt (List.mem_of_getElem? (i := 74) (by decide +kernel)) rfl, wt (List.mem_of_getElem? (i := 703) (by decide +kernel)) rfl, by decide +kernel⟩
theorem ok_X9_read : okV yX9_read cX9_read 5 (some .int) 3 := ⟨wt (List.mem_of_getElem? (i := 706) (by decide +kernel)) rfl, wt (List.mem_of_getElem? (i := 707) (by decide +kernel)) rfl, wt (List.mem_of_getElem? (i := 74) (by decide +kernel)) rfl, wt (List.mem_of_getElem? (i := 708) (by decide +kernel)) rfl, by decide +kernel⟩
theorem ok_X4_wordRead : okV yX4_wordRead cX4_wordRead 6 (some .int) 3 := ⟨wt (List.mem_of_getElem? (i := 710) (by decide +kernel)) rfl, wt (List.mem_of_getElem? (i := 711) (by decide +kernel)) rfl, wt (List.mem_of_getElem? (i := 84) (by decide +kernel)) rfl, wt (List.mem_of_getElem? (i := 712) (by decide +kernel)) rfl, by decide +kernel⟩
theorem ok_X9_missed : okV yX9_missed cX9_missed 6 (some .int) 3 := ⟨wt (List.mem_of_getElem? (i := 714) (by decide +kernel)) rfl, wt (List.mem_of_getElem? (i := 715) (by decide +kernel)) rfl, wt (List.mem_of_getElem? (i := 74) (by decide +kernel)) rfl, wt (List.mem_of_getElem? (i := 716) (by decide +kernel)) rfl, by decide +kernel⟩
theorem ok_X9_mend : okV yX9_mend cX9_mend 5 (some .int) 1 := ⟨wt (List.mem_of_getElem? (i := 718) (by decide +kernel)) rfl, wt (List.mem_of_getElem? (i := 719) (by decide +kernel)) rfl, wt (List.mem_of_getElem? (i := 74) (by decide +kernel)) rfl, wt (List.mem_of_getElem? (i := 720) (by decide +kernel)) rfl, by decide +kernel⟩
theorem ok_X8_drawMissed : okV yX8_drawMissed cX8_drawMissed 9 none 2 := ⟨wt (List.mem_of_getElem? (i := 722) (by decide +kernel)) rfl, wt (List.mem_of_getElem? (i := 723) (by decide +kernel)) rfl, wt (List.mem_of_getElem? (i := 82) (by decide +kernel)) rfl, wt (List.mem_of_getElem? (i := 724) (by decide +kernel)) rfl, by decide +kernel⟩
theorem ok_X9_heading : okV yX9_heading cX9_heading 5 (some .int) 3 := ⟨wt (List.mem_of_getElem? (i := 727) (by decide +kernel)) rfl, wt (List.mem_of_getElem? (i := 728) (by decide +kernel)) rfl, wt (List.mem_of_getElem? (i := 74) (by decide +kernel)) rfl, wt (List.mem_of_getElem? (i := 729) (by decide +kernel)) rfl, by decide +kernel⟩
theorem ok_X8_headingOf : okV yX8_headingOf cX8_headingOf 5 (some .int) 2 := ⟨wt (List.mem_of_getElem? (i := 731) (by decide +kernel)) rfl, wt (List.mem_of_getElem? (i := 732) (by decide +kernel)) rfl, wt (List.mem_of_getElem? (i := 82) (by decide +kernel)) rfl, wt (List.mem_of_getElem? (i := 733) (by decide +kernel)) rfl, by decide +kernel⟩
theorem ok_X8_isFirstInColumn : okV yX8_isFirstInColumn cX8_isFirstInColumn 4 (some .boolean) 2 := ⟨wt (List.mem_of_getElem? (i := 736) (by decide +kernel)) rfl, wt (List.mem_of_getElem? (i := 25) (by decide +kernel)) rfl, wt (List.mem_of_getElem? (i := 82) (by decide +kernel)) rfl, wt (List.mem_of_getElem? (i := 737) (by decide +kernel)) rfl, by decide +kernel⟩
theorem ok_X9_image : okV yX9_image cX9_image 2 (some .int) 1 := ⟨wt (List.mem_of_getElem? (i := 739) (by decide +kernel)) rfl, wt (List.mem_of_getElem? (i := 740) (by decide +kernel)) rfl, wt (List.mem_of_getElem? (i := 74) (by decide +kernel)) rfl, wt (List.mem_of_getElem? (i := 741) (by decide +kernel)) rfl, by decide +kernel⟩
theorem ok_X3_take : okV yX3_take cX3_take 3 none 1 := ⟨wt (List.mem_of_getElem? (i := 743) (by decide +kernel)) rfl, wt (List.mem_of_getElem? (i := 744) (by decide +kernel)) rfl, wt (List.mem_of_getElem? (i := 75) (by decide +kernel)) rfl, wt (List.mem_of_getElem? (i := 745) (by decide +kernel)) rfl, by decide +kernel⟩
theorem ok_X5_take : okV yX5_take cX5_take 3 none 1 := ⟨wt (List.mem_of_getElem? (i := 747) (by decide +kernel)) rfl, wt (List.mem_of_getElem? (i := 748) (by decide +kernel)) rfl, wt (List.mem_of_getElem? (i := 76) (by decide +kernel)) rfl, wt (List.mem_of_getElem? (i := 749) (by decide +kernel)) rfl, by decide +kernel⟩
theorem ok_X9_restore : okV yX9_restore cX9_restore 2 (some .int) 1 := ⟨wt (List.mem_of_getElem? (i := 751) (by decide +kernel)) rfl, wt (List.mem_of_getElem? (i := 752) (by decide +kernel)) rfl, wt (List.mem_of_getElem? (i := 74) (by decide +kernel)) rfl, wt (List.mem_of_getElem? (i := 753) (by decide +kernel)) rfl, by decide +kernel⟩
theorem ok_X9_told : okV yX9_told cX9_told 2 (some .int) 1 := ⟨wt (List.mem_of_getElem? (i := 755) (by decide +kernel)) rfl, wt (List.mem_of_getElem? (i := 756) (by decide +kernel)) rfl, wt (List.mem_of_getElem? (i := 74) (by decide +kernel)) rfl, wt (List.mem_of_getElem? (i := 757) (by decide +kernel)) rfl, by decide +kernel⟩
theorem ok_X10_set : okV yX10_set cX10_set 4 (some .int) 2 := ⟨wt (List.mem_of_getElem? (i := 850) (by decide +kernel)) rfl, wt (List.mem_of_getElem? (i := 851) (by decide +kernel)) rfl, wt (List.mem_of_getElem? (i := 85) (by decide +kernel)) rfl, wt (List.mem_of_getElem? (i := 852) (by decide +kernel)) rfl, by decide +kernel⟩
theorem ok_X10_in : okS yX10_in cX10_in 6 (some .boolean) 3 := ⟨wt (List.mem_of_getElem? (i := 855) (by decide +kernel)) rfl, wt (List.mem_of_getElem? (i := 85) (by decide +kernel)) rfl, wt (List.mem_of_getElem? (i := 856) (by decide +kernel)) rfl, by decide +kernel⟩
theorem ok_X10_draw : okV yX10_draw cX10_draw 5 (some .int) 4 := ⟨wt (List.mem_of_getElem? (i := 861) (by decide +kernel)) rfl, wt (List.mem_of_getElem? (i := 862) (by decide +kernel)) rfl, wt (List.mem_of_getElem? (i := 85) (by decide +kernel)) rfl, wt (List.mem_of_getElem? (i := 863) (by decide +kernel)) rfl, by decide +kernel⟩
theorem ok_X10_isPlace : okS yX10_isPlace cX10_isPlace 1 (some .boolean) 1 := ⟨wt (List.mem_of_getElem? (i := 865) (by decide +kernel)) rfl, wt (List.mem_of_getElem? (i := 85) (by decide +kernel)) rfl, wt (List.mem_of_getElem? (i := 866) (by decide +kernel)) rfl, by decide +kernel⟩
theorem ok_X10_addPiece : okV yX10_addPiece cX10_addPiece 5 none 4 := ⟨wt (List.mem_of_getElem? (i := 870) (by decide +kernel)) rfl, wt (List.mem_of_getElem? (i := 26) (by decide +kernel)) rfl, wt (List.mem_of_getElem? (i := 85) (by decide +kernel)) rfl, wt (List.mem_of_getElem? (i := 871) (by decide +kernel)) rfl, by decide +kernel⟩
theorem ok_X10_erase : okV yX10_erase cX10_erase 3 (some .int) 1 := ⟨wt (List.mem_of_getElem? (i := 873) (by decide +kernel)) rfl, wt (List.mem_of_getElem? (i := 874) (by decide +kernel)) rfl, wt (List.mem_of_getElem? (i := 85) (by decide +kernel)) rfl, wt (List.mem_of_getElem? (i := 875) (by decide +kernel)) rfl, by decide +kernel⟩
theorem ok_X10_write : okV yX10_write cX10_write 5 (some .int) 4 := ⟨wt (List.mem_of_getElem? (i := 877) (by decide +kernel)) rfl, wt (List.mem_of_getElem? (i := 878) (by decide +kernel)) rfl, wt (List.mem_of_getElem? (i := 85) (by decide +kernel)) rfl, wt (List.mem_of_getElem? (i := 879) (by decide +kernel)) rfl, by decide +kernel⟩
theorem ok_X10_strike : okV yX10_strike cX10_strike 3 (some .int) 1 := ⟨wt (List.mem_of_getElem? (i := 881) (by decide +kernel)) rfl, wt (List.mem_of_getElem? (i := 882) (by decide +kernel)) rfl, wt (List.mem_of_getElem? (i := 85) (by decide +kernel)) rfl, wt (List.mem_of_getElem? (i := 883) (by decide +kernel)) rfl, by decide +kernel⟩
theorem ok_X10_piece : okV yX10_piece cX10_piece 3 (some .int) 2 := ⟨wt (List.mem_of_getElem? (i := 885) (by decide +kernel)) rfl, wt (List.mem_of_getElem? (i := 886) (by decide +kernel)) rfl, wt (List.mem_of_getElem? (i := 85) (by decide +kernel)) rfl, wt (List.mem_of_getElem? (i := 887) (by decide +kernel)) rfl, by decide +kernel⟩
theorem ok_X10_findAll : okV yX10_findAll cX10_findAll 2 none 0 := ⟨wt (List.mem_of_getElem? (i := 891) (by decide +kernel)) rfl, wt (List.mem_of_getElem? (i := 27) (by decide +kernel)) rfl, wt (List.mem_of_getElem? (i := 85) (by decide +kernel)) rfl, wt (List.mem_of_getElem? (i := 892) (by decide +kernel)) rfl, by decide +kernel⟩
theorem ok_X10_findRules : okV yX10_findRules cX10_findRules 3 none 0 := ⟨wt (List.mem_of_getElem? (i := 895) (by decide +kernel)) rfl, wt (List.mem_of_getElem? (i := 28) (by decide +kernel)) rfl, wt (List.mem_of_getElem? (i := 85) (by decide +kernel)) rfl, wt (List.mem_of_getElem? (i := 896) (by decide +kernel)) rfl, by decide +kernel⟩
theorem ok_X10_begin : okV yX10_begin cX10_begin 3 none 1 := ⟨wt (List.mem_of_getElem? (i := 899) (by decide +kernel)) rfl, wt (List.mem_of_getElem? (i := 29) (by decide +kernel)) rfl, wt (List.mem_of_getElem? (i := 85) (by decide +kernel)) rfl, wt (List.mem_of_getElem? (i := 900) (by decide +kernel)) rfl, by decide +kernel⟩
theorem ok_X10_isNear : okV yX10_isNear cX10_isNear 5 (some .boolean) 2 := ⟨wt (List.mem_of_getElem? (i := 903) (by decide +kernel)) rfl, wt (List.mem_of_getElem? (i := 30) (by decide +kernel)) rfl, wt (List.mem_of_getElem? (i := 85) (by decide +kernel)) rfl, wt (List.mem_of_getElem? (i := 904) (by decide +kernel)) rfl, by decide +kernel⟩
theorem ok_X10_pieceAt : okV yX10_pieceAt cX10_pieceAt 3 (some .int) 2 := ⟨wt (List.mem_of_getElem? (i := 907) (by decide +kernel)) rfl, wt (List.mem_of_getElem? (i := 31) (by decide +kernel)) rfl, wt (List.mem_of_getElem? (i := 85) (by decide +kernel)) rfl, wt (List.mem_of_getElem? (i := 908) (by decide +kernel)) rfl, by decide +kernel⟩
theorem ok_X10_greater : okS yX10_greater cX10_greater 2 (some .int) 2 := ⟨wt (List.mem_of_getElem? (i := 910) (by decide +kernel)) rfl, wt (List.mem_of_getElem? (i := 85) (by decide +kernel)) rfl, wt (List.mem_of_getElem? (i := 911) (by decide +kernel)) rfl, by decide +kernel⟩
theorem ok_X10_less : okS yX10_less cX10_less 2 (some .int) 2 := ⟨wt (List.mem_of_getElem? (i := 913) (by decide +kernel)) rfl, wt (List.mem_of_getElem? (i := 85) (by decide +kernel)) rfl, wt (List.mem_of_getElem? (i := 914) (by decide +kernel)) rfl, by decide +kernel⟩
theorem ok_X10_join : okV yX10_join cX10_join 7 none 3 := ⟨wt (List.mem_of_getElem? (i := 917) (by decide +kernel)) rfl, wt (List.mem_of_getElem? (i := 32) (by decide +kernel)) rfl, wt (List.mem_of_getElem? (i := 85) (by decide +kernel)) rfl, wt (List.mem_of_getElem? (i := 918) (by decide +kernel)) rfl, by decide +kernel⟩
theorem ok_X10_addRule : okV yX10_addRule cX10_addRule 6 none 1 := ⟨wt (List.mem_of_getElem? (i := 921) (by decide +kernel)) rfl, wt (List.mem_of_getElem? (i := 33) (by decide +kernel)) rfl, wt (List.mem_of_getElem? (i := 85) (by decide +kernel)) rfl, wt (List.mem_of_getElem? (i := 922) (by decide +kernel)) rfl, by decide +kernel⟩
theorem ok_X10_sortRules : okV yX10_sortRules cX10_sortRules 6 none 0 := ⟨wt (List.mem_of_getElem? (i := 925) (by decide +kernel)) rfl, wt (List.mem_of_getElem? (i := 34) (by decide +kernel)) rfl, wt (List.mem_of_getElem? (i := 85) (by decide +kernel)) rfl, wt (List.mem_of_getElem? (i := 926) (by decide +kernel)) rfl, by decide +kernel⟩
theorem ok_X10_isRuleBefore : okV yX10_isRuleBefore cX10_isRuleBefore 4 (some .boolean) 2 := ⟨wt (List.mem_of_getElem? (i := 929) (by decide +kernel)) rfl, wt (List.mem_of_getElem? (i := 35) (by decide +kernel)) rfl, wt (List.mem_of_getElem? (i := 85) (by decide +kernel)) rfl, wt (List.mem_of_getElem? (i := 930) (by decide +kernel)) rfl, by decide +kernel⟩
theorem ok_X10_ruleAt : okV yX10_ruleAt cX10_ruleAt 3 (some .int) 2 := ⟨wt (List.mem_of_getElem? (i := 933) (by decide +kernel)) rfl, wt (List.mem_of_getElem? (i := 36) (by decide +kernel)) rfl, wt (List.mem_of_getElem? (i := 85) (by decide +kernel)) rfl, wt (List.mem_of_getElem? (i := 934) (by decide +kernel)) rfl, by decide +kernel⟩
theorem ok_X10_findTables : okV yX10_findTables cX10_findTables 3 none 0 := ⟨wt (List.mem_of_getElem? (i := 937) (by decide +kernel)) rfl, wt (List.mem_of_getElem? (i := 37) (by decide +kernel)) rfl, wt (List.mem_of_getElem? (i := 85) (by decide +kernel)) rfl, wt (List.mem_of_getElem? (i := 938) (by decide +kernel)) rfl, by decide +kernel⟩
theorem ok_X10_isCross : okV yX10_isCross cX10_isCross 3 (some .boolean) 2 := ⟨wt (List.mem_of_getElem? (i := 941) (by decide +kernel)) rfl, wt (List.mem_of_getElem? (i := 38) (by decide +kernel)) rfl, wt (List.mem_of_getElem? (i := 85) (by decide +kernel)) rfl, wt (List.mem_of_getElem? (i := 942) (by decide +kernel)) rfl, by decide +kernel⟩
theorem ok_X10_lies : okV yX10_lies cX10_lies 3 (some .boolean) 2 := ⟨wt (List.mem_of_getElem? (i := 945) (by decide +kernel)) rfl, wt (List.mem_of_getElem? (i := 39) (by decide +kernel)) rfl, wt (List.mem_of_getElem? (i := 85) (by decide +kernel)) rfl, wt (List.mem_of_getElem? (i := 946) (by decide +kernel)) rfl, by decide +kernel⟩
theorem ok_X10_countLines : okV yX10_countLines cX10_countLines 7 (some .int) 2 := ⟨wt (List.mem_of_getElem? (i := 949) (by decide +kernel)) rfl, wt (List.mem_of_getElem? (i := 40) (by decide +kernel)) rfl, wt (List.mem_of_getElem? (i := 85) (by decide +kernel)) rfl, wt (List.mem_of_getElem? (i := 950) (by decide +kernel)) rfl, by decide +kernel⟩
theorem ok_X10_layLines : okV yX10_layLines cX10_layLines 6 none 2 := ⟨wt (List.mem_of_getElem? (i := 953) (by decide +kernel)) rfl, wt (List.mem_of_getElem? (i := 41) (by decide +kernel)) rfl, wt (List.mem_of_getElem? (i := 85) (by decide +kernel)) rfl, wt (List.mem_of_getElem? (i := 954) (by decide +kernel)) rfl, by decide +kernel⟩
theorem ok_X10_findCells : okV yX10_findCells cX10_findCells 7 none 1 := ⟨wt (List.mem_of_getElem? (i := 957) (by decide +kernel)) rfl, wt (List.mem_of_getElem? (i := 42) (by decide +kernel)) rfl, wt (List.mem_of_getElem? (i := 85) (by decide +kernel)) rfl, wt (List.mem_of_getElem? (i := 958) (by decide +kernel)) rfl, by decide +kernel⟩
theorem ok_X10_columnsOf : okV yX10_columnsOf cX10_columnsOf 2 (some .int) 1 := ⟨wt (List.mem_of_getElem? (i := 961) (by decide +kernel)) rfl, wt (List.mem_of_getElem? (i := 43) (by decide +kernel)) rfl, wt (List.mem_of_getElem? (i := 85) (by decide +kernel)) rfl, wt (List.mem_of_getElem? (i := 962) (by decide +kernel)) rfl, by decide +kernel⟩
theorem ok_X10_rowsOf : okV yX10_rowsOf cX10_rowsOf 2 (some .int) 1 := ⟨wt (List.mem_of_getElem? (i := 965) (by decide +kernel)) rfl, wt (List.mem_of_getElem? (i := 44) (by decide +kernel)) rfl, wt (List.mem_of_getElem? (i := 85) (by decide +kernel)) rfl, wt (List.mem_of_getElem? (i := 966) (by decide +kernel)) rfl, by decide +kernel⟩
theorem ok_X10_isRuled : okV yX10_isRuled cX10_isRuled 6 (some .boolean) 4 := ⟨wt (List.mem_of_getElem? (i := 969) (by decide +kernel)) rfl, wt (List.mem_of_getElem? (i := 45) (by decide +kernel)) rfl, wt (List.mem_of_getElem? (i := 85) (by decide +kernel)) rfl, wt (List.mem_of_getElem? (i := 970) (by decide +kernel)) rfl, by decide +kernel⟩
theorem ok_X10_lineAt : okV yX10_lineAt cX10_lineAt 4 (some .int) 3 := ⟨wt (List.mem_of_getElem? (i := 973) (by decide +kernel)) rfl, wt (List.mem_of_getElem? (i := 46) (by decide +kernel)) rfl, wt (List.mem_of_getElem? (i := 85) (by decide +kernel)) rfl, wt (List.mem_of_getElem? (i := 974) (by decide +kernel)) rfl, by decide +kernel⟩
theorem ok_X10_reaches : okV yX10_reaches cX10_reaches 9 (some .boolean) 5 := ⟨wt (List.mem_of_getElem? (i := 977) (by decide +kernel)) rfl, wt (List.mem_of_getElem? (i := 47) (by decide +kernel)) rfl, wt (List.mem_of_getElem? (i := 85) (by decide +kernel)) rfl, wt (List.mem_of_getElem? (i := 978) (by decide +kernel)) rfl, by decide +kernel⟩
theorem ok_X10_addField : okV yX10_addField cX10_addField 8 none 3 := ⟨wt (List.mem_of_getElem? (i := 981) (by decide +kernel)) rfl, wt (List.mem_of_getElem? (i := 48) (by decide +kernel)) rfl, wt (List.mem_of_getElem? (i := 85) (by decide +kernel)) rfl, wt (List.mem_of_getElem? (i := 982) (by decide +kernel)) rfl, by decide +kernel⟩
theorem ok_X10_isOpen : okV yX10_isOpen cX10_isOpen 8 (some .boolean) 3 := ⟨wt (List.mem_of_getElem? (i := 985) (by decide +kernel)) rfl, wt (List.mem_of_getElem? (i := 49) (by decide +kernel)) rfl, wt (List.mem_of_getElem? (i := 85) (by decide +kernel)) rfl, wt (List.mem_of_getElem? (i := 986) (by decide +kernel)) rfl, by decide +kernel⟩
theorem ok_X10_cellAt : okV yX10_cellAt cX10_cellAt 3 (some .int) 2 := ⟨wt (List.mem_of_getElem? (i := 989) (by decide +kernel)) rfl, wt (List.mem_of_getElem? (i := 50) (by decide +kernel)) rfl, wt (List.mem_of_getElem? (i := 85) (by decide +kernel)) rfl, wt (List.mem_of_getElem? (i := 990) (by decide +kernel)) rfl, by decide +kernel⟩
theorem ok_X10_findWord : okV yX10_findWord cX10_findWord 5 none 1 := ⟨wt (List.mem_of_getElem? (i := 993) (by decide +kernel)) rfl, wt (List.mem_of_getElem? (i := 51) (by decide +kernel)) rfl, wt (List.mem_of_getElem? (i := 85) (by decide +kernel)) rfl, wt (List.mem_of_getElem? (i := 994) (by decide +kernel)) rfl, by decide +kernel⟩
theorem ok_X10_boxAt : okV yX10_boxAt cX10_boxAt 3 (some .int) 2 := ⟨wt (List.mem_of_getElem? (i := 997) (by decide +kernel)) rfl, wt (List.mem_of_getElem? (i := 52) (by decide +kernel)) rfl, wt (List.mem_of_getElem? (i := 85) (by decide +kernel)) rfl, wt (List.mem_of_getElem? (i := 998) (by decide +kernel)) rfl, by decide +kernel⟩
theorem ok_X10_between : okV yX10_between cX10_between 5 (some .int) 3 := ⟨wt (List.mem_of_getElem? (i := 1001) (by decide +kernel)) rfl, wt (List.mem_of_getElem? (i := 53) (by decide +kernel)) rfl, wt (List.mem_of_getElem? (i := 85) (by decide +kernel)) rfl, wt (List.mem_of_getElem? (i := 1002) (by decide +kernel)) rfl, by decide +kernel⟩
theorem ok_X10_word : okV yX10_word cX10_word 4 (some .int) 2 := ⟨wt (List.mem_of_getElem? (i := 1004) (by decide +kernel)) rfl, wt (List.mem_of_getElem? (i := 1005) (by decide +kernel)) rfl, wt (List.mem_of_getElem? (i := 85) (by decide +kernel)) rfl, wt (List.mem_of_getElem? (i := 1006) (by decide +kernel)) rfl, by decide +kernel⟩
theorem ok_X10_rule : okV yX10_rule cX10_rule 5 (some .int) 2 := ⟨wt (List.mem_of_getElem? (i := 1008) (by decide +kernel)) rfl, wt (List.mem_of_getElem? (i := 1009) (by decide +kernel)) rfl, wt (List.mem_of_getElem? (i := 85) (by decide +kernel)) rfl, wt (List.mem_of_getElem? (i := 1010) (by decide +kernel)) rfl, by decide +kernel⟩
theorem ok_X10_isRule : okV yX10_isRule cX10_isRule 2 (some .boolean) 1 := ⟨wt (List.mem_of_getElem? (i := 1013) (by decide +kernel)) rfl, wt (List.mem_of_getElem? (i := 54) (by decide +kernel)) rfl, wt (List.mem_of_getElem? (i := 85) (by decide +kernel)) rfl, wt (List.mem_of_getElem? (i := 1014) (by decide +kernel)) rfl, by decide +kernel⟩
theorem ok_X10_cross : okV yX10_cross cX10_cross 3 (some .int) 2 := ⟨wt (List.mem_of_getElem? (i := 1017) (by decide +kernel)) rfl, wt (List.mem_of_getElem? (i := 1018) (by decide +kernel)) rfl, wt (List.mem_of_getElem? (i := 85) (by decide +kernel)) rfl, wt (List.mem_of_getElem? (i := 1019) (by decide +kernel)) rfl, by decide +kernel⟩
theorem ok_X10_missed : okV yX10_missed cX10_missed 4 (some .int) 3 := ⟨wt (List.mem_of_getElem? (i := 1021) (by decide +kernel)) rfl, wt (List.mem_of_getElem? (i := 1022) (by decide +kernel)) rfl, wt (List.mem_of_getElem? (i := 85) (by decide +kernel)) rfl, wt (List.mem_of_getElem? (i := 1023) (by decide +kernel)) rfl, by decide +kernel⟩
theorem ok_X10_isTable : okV yX10_isTable cX10_isTable 2 (some .boolean) 1 := ⟨wt (List.mem_of_getElem? (i := 1026) (by decide +kernel)) rfl, wt (List.mem_of_getElem? (i := 55) (by decide +kernel)) rfl, wt (List.mem_of_getElem? (i := 85) (by decide +kernel)) rfl, wt (List.mem_of_getElem? (i := 1027) (by decide +kernel)) rfl, by decide +kernel⟩
theorem ok_X10_findMissed : okV yX10_findMissed cX10_findMissed 4 none 2 := ⟨wt (List.mem_of_getElem? (i := 1030) (by decide +kernel)) rfl, wt (List.mem_of_getElem? (i := 56) (by decide +kernel)) rfl, wt (List.mem_of_getElem? (i := 85) (by decide +kernel)) rfl, wt (List.mem_of_getElem? (i := 1031) (by decide +kernel)) rfl, by decide +kernel⟩
theorem ok_X10_missBy : okV yX10_missBy cX10_missBy 8 none 4 := ⟨wt (List.mem_of_getElem? (i := 1034) (by decide +kernel)) rfl, wt (List.mem_of_getElem? (i := 57) (by decide +kernel)) rfl, wt (List.mem_of_getElem? (i := 85) (by decide +kernel)) rfl, wt (List.mem_of_getElem? (i := 1035) (by decide +kernel)) rfl, by decide +kernel⟩
theorem ok_X10_wordsBy : okV yX10_wordsBy cX10_wordsBy 7 (some .int) 3 := ⟨wt (List.mem_of_getElem? (i := 1038) (by decide +kernel)) rfl, wt (List.mem_of_getElem? (i := 58) (by decide +kernel)) rfl, wt (List.mem_of_getElem? (i := 85) (by decide +kernel)) rfl, wt (List.mem_of_getElem? (i := 1039) (by decide +kernel)) rfl, by decide +kernel⟩
theorem ok_X10_mend : okV yX10_mend cX10_mend 4 (some .int) 1 := ⟨wt (List.mem_of_getElem? (i := 1041) (by decide +kernel)) rfl, wt (List.mem_of_getElem? (i := 1042) (by decide +kernel)) rfl, wt (List.mem_of_getElem? (i := 85) (by decide +kernel)) rfl, wt (List.mem_of_getElem? (i := 1043) (by decide +kernel)) rfl, by decide +kernel⟩
theorem ok_X10_layComing : okV yX10_layComing cX10_layComing 5 none 2 := ⟨wt (List.mem_of_getElem? (i := 1046) (by decide +kernel)) rfl, wt (List.mem_of_getElem? (i := 59) (by decide +kernel)) rfl, wt (List.mem_of_getElem? (i := 85) (by decide +kernel)) rfl, wt (List.mem_of_getElem? (i := 1047) (by decide +kernel)) rfl, by decide +kernel⟩
theorem ok_X10_table : okV yX10_table cX10_table 3 (some .int) 2 := ⟨wt (List.mem_of_getElem? (i := 1049) (by decide +kernel)) rfl, wt (List.mem_of_getElem? (i := 1050) (by decide +kernel)) rfl, wt (List.mem_of_getElem? (i := 85) (by decide +kernel)) rfl, wt (List.mem_of_getElem? (i := 1051) (by decide +kernel)) rfl, by decide +kernel⟩
theorem ok_X10_rulesOf : okV yX10_rulesOf cX10_rulesOf 4 (some .int) 1 := ⟨wt (List.mem_of_getElem? (i := 1054) (by decide +kernel)) rfl, wt (List.mem_of_getElem? (i := 60) (by decide +kernel)) rfl, wt (List.mem_of_getElem? (i := 85) (by decide +kernel)) rfl, wt (List.mem_of_getElem? (i := 1055) (by decide +kernel)) rfl, by decide +kernel⟩
theorem ok_X10_wordsOf : okV yX10_wordsOf cX10_wordsOf 4 (some .int) 1 := ⟨wt (List.mem_of_getElem? (i := 1058) (by decide +kernel)) rfl, wt (List.mem_of_getElem? (i := 61) (by decide +kernel)) rfl, wt (List.mem_of_getElem? (i := 85) (by decide +kernel)) rfl, wt (List.mem_of_getElem? (i := 1059) (by decide +kernel)) rfl, by decide +kernel⟩
theorem ok_X10_headsOf : okV yX10_headsOf cX10_headsOf 3 (some .int) 1 := ⟨wt (List.mem_of_getElem? (i := 1062) (by decide +kernel)) rfl, wt (List.mem_of_getElem? (i := 62) (by decide +kernel)) rfl, wt (List.mem_of_getElem? (i := 85) (by decide +kernel)) rfl, wt (List.mem_of_getElem? (i := 1063) (by decide +kernel)) rfl, by decide +kernel⟩
theorem ok_X10_isNarrow : okV yX10_isNarrow cX10_isNarrow 5 (some .boolean) 2 := ⟨wt (List.mem_of_getElem? (i := 1066) (by decide +kernel)) rfl, wt (List.mem_of_getElem? (i := 63) (by decide +kernel)) rfl, wt (List.mem_of_getElem? (i := 85) (by decide +kernel)) rfl, wt (List.mem_of_getElem? (i := 1067) (by decide +kernel)) rfl, by decide +kernel⟩
theorem ok_X10_wholeOf : okV yX10_wholeOf cX10_wholeOf 4 (some .int) 1 := ⟨wt (List.mem_of_getElem? (i := 1070) (by decide +kernel)) rfl, wt (List.mem_of_getElem? (i := 64) (by decide +kernel)) rfl, wt (List.mem_of_getElem? (i := 85) (by decide +kernel)) rfl, wt (List.mem_of_getElem? (i := 1071) (by decide +kernel)) rfl, by decide +kernel⟩
theorem ok_X10_edge : okV yX10_edge cX10_edge 4 (some .int) 3 := ⟨wt (List.mem_of_getElem? (i := 1073) (by decide +kernel)) rfl, wt (List.mem_of_getElem? (i := 1074) (by decide +kernel)) rfl, wt (List.mem_of_getElem? (i := 85) (by decide +kernel)) rfl, wt (List.mem_of_getElem? (i := 1075) (by decide +kernel)) rfl, by decide +kernel⟩
theorem ok_X10_ruled : okV yX10_ruled cX10_ruled 5 (some .int) 4 := ⟨wt (List.mem_of_getElem? (i := 1077) (by decide +kernel)) rfl, wt (List.mem_of_getElem? (i := 1078) (by decide +kernel)) rfl, wt (List.mem_of_getElem? (i := 85) (by decide +kernel)) rfl, wt (List.mem_of_getElem? (i := 1079) (by decide +kernel)) rfl, by decide +kernel⟩
theorem ok_X10_isSide : okV yX10_isSide cX10_isSide 5 (some .boolean) 4 := ⟨wt (List.mem_of_getElem? (i := 1082) (by decide +kernel)) rfl, wt (List.mem_of_getElem? (i := 65) (by decide +kernel)) rfl, wt (List.mem_of_getElem? (i := 85) (by decide +kernel)) rfl, wt (List.mem_of_getElem? (i := 1083) (by decide +kernel)) rfl, by decide +kernel⟩
theorem ok_X10_at : okV yX10_at cX10_at 4 (some .int) 3 := ⟨wt (List.mem_of_getElem? (i := 1085) (by decide +kernel)) rfl, wt (List.mem_of_getElem? (i := 1086) (by decide +kernel)) rfl, wt (List.mem_of_getElem? (i := 85) (by decide +kernel)) rfl, wt (List.mem_of_getElem? (i := 1087) (by decide +kernel)) rfl, by decide +kernel⟩
theorem ok_X10_cell : okV yX10_cell cX10_cell 5 (some .int) 3 := ⟨wt (List.mem_of_getElem? (i := 1089) (by decide +kernel)) rfl, wt (List.mem_of_getElem? (i := 1090) (by decide +kernel)) rfl, wt (List.mem_of_getElem? (i := 85) (by decide +kernel)) rfl, wt (List.mem_of_getElem? (i := 1091) (by decide +kernel)) rfl, by decide +kernel⟩
theorem ok_X10_isCell : okV yX10_isCell cX10_isCell 3 (some .boolean) 2 := ⟨wt (List.mem_of_getElem? (i := 1094) (by decide +kernel)) rfl, wt (List.mem_of_getElem? (i := 66) (by decide +kernel)) rfl, wt (List.mem_of_getElem? (i := 85) (by decide +kernel)) rfl, wt (List.mem_of_getElem? (i := 1095) (by decide +kernel)) rfl, by decide +kernel⟩
theorem ok_X10_wordsIn : okV yX10_wordsIn cX10_wordsIn 4 (some .int) 1 := ⟨wt (List.mem_of_getElem? (i := 1099) (by decide +kernel)) rfl, wt (List.mem_of_getElem? (i := 67) (by decide +kernel)) rfl, wt (List.mem_of_getElem? (i := 85) (by decide +kernel)) rfl, wt (List.mem_of_getElem? (i := 1100) (by decide +kernel)) rfl, by decide +kernel⟩
theorem ok_X10_read : okV yX10_read cX10_read 8 (some .int) 3 := ⟨wt (List.mem_of_getElem? (i := 1102) (by decide +kernel)) rfl, wt (List.mem_of_getElem? (i := 1103) (by decide +kernel)) rfl, wt (List.mem_of_getElem? (i := 85) (by decide +kernel)) rfl, wt (List.mem_of_getElem? (i := 1104) (by decide +kernel)) rfl, by decide +kernel⟩
theorem ok_X10_isWordOf : okV yX10_isWordOf cX10_isWordOf 3 (some .boolean) 2 := ⟨wt (List.mem_of_getElem? (i := 1107) (by decide +kernel)) rfl, wt (List.mem_of_getElem? (i := 68) (by decide +kernel)) rfl, wt (List.mem_of_getElem? (i := 85) (by decide +kernel)) rfl, wt (List.mem_of_getElem? (i := 1108) (by decide +kernel)) rfl, by decide +kernel⟩
theorem ok_X10_isReadBefore : okV yX10_isReadBefore cX10_isReadBefore 5 (some .boolean) 2 := ⟨wt (List.mem_of_getElem? (i := 1111) (by decide +kernel)) rfl, wt (List.mem_of_getElem? (i := 69) (by decide +kernel)) rfl, wt (List.mem_of_getElem? (i := 85) (by decide +kernel)) rfl, wt (List.mem_of_getElem? (i := 1112) (by decide +kernel)) rfl, by decide +kernel⟩
theorem ok_X10_heading : okV yX10_heading cX10_heading 9 (some .int) 3 := ⟨wt (List.mem_of_getElem? (i := 1114) (by decide +kernel)) rfl, wt (List.mem_of_getElem? (i := 1115) (by decide +kernel)) rfl, wt (List.mem_of_getElem? (i := 85) (by decide +kernel)) rfl, wt (List.mem_of_getElem? (i := 1116) (by decide +kernel)) rfl, by decide +kernel⟩
theorem ok_X10_image : okV yX10_image cX10_image 2 (some .int) 1 := ⟨wt (List.mem_of_getElem? (i := 1119) (by decide +kernel)) rfl, wt (List.mem_of_getElem? (i := 1120) (by decide +kernel)) rfl, wt (List.mem_of_getElem? (i := 85) (by decide +kernel)) rfl, wt (List.mem_of_getElem? (i := 1121) (by decide +kernel)) rfl, by decide +kernel⟩
theorem ok_X10_passAll : okV yX10_passAll cX10_passAll 1 none 0 := ⟨wt (List.mem_of_getElem? (i := 1124) (by decide +kernel)) rfl, wt (List.mem_of_getElem? (i := 70) (by decide +kernel)) rfl, wt (List.mem_of_getElem? (i := 85) (by decide +kernel)) rfl, wt (List.mem_of_getElem? (i := 1125) (by decide +kernel)) rfl, by decide +kernel⟩
theorem ok_X10_pass : okV yX10_pass cX10_pass 3 (some .int) 1 := ⟨wt (List.mem_of_getElem? (i := 1128) (by decide +kernel)) rfl, wt (List.mem_of_getElem? (i := 71) (by decide +kernel)) rfl, wt (List.mem_of_getElem? (i := 85) (by decide +kernel)) rfl, wt (List.mem_of_getElem? (i := 1129) (by decide +kernel)) rfl, by decide +kernel⟩
theorem ok_X10_passRow : okV yX10_passRow cX10_passRow 4 none 2 := ⟨wt (List.mem_of_getElem? (i := 1132) (by decide +kernel)) rfl, wt (List.mem_of_getElem? (i := 72) (by decide +kernel)) rfl, wt (List.mem_of_getElem? (i := 85) (by decide +kernel)) rfl, wt (List.mem_of_getElem? (i := 1133) (by decide +kernel)) rfl, by decide +kernel⟩
theorem ok_X10_restore : okV yX10_restore cX10_restore 2 (some .int) 1 := ⟨wt (List.mem_of_getElem? (i := 1135) (by decide +kernel)) rfl, wt (List.mem_of_getElem? (i := 1136) (by decide +kernel)) rfl, wt (List.mem_of_getElem? (i := 85) (by decide +kernel)) rfl, wt (List.mem_of_getElem? (i := 1137) (by decide +kernel)) rfl, by decide +kernel⟩
theorem ok_X10_told : okV yX10_told cX10_told 2 (some .int) 1 := ⟨wt (List.mem_of_getElem? (i := 1139) (by decide +kernel)) rfl, wt (List.mem_of_getElem? (i := 1140) (by decide +kernel)) rfl, wt (List.mem_of_getElem? (i := 85) (by decide +kernel)) rfl, wt (List.mem_of_getElem? (i := 1141) (by decide +kernel)) rfl, by decide +kernel⟩
theorem km0_57 : Cond.methodLink RX0 57 yX7_find ∈ wtb := wt (List.mem_of_getElem? (i := 422) (by decide +kernel)) rfl
theorem km0_61 : Cond.methodLink RX0 61 yX7_joinCrossing ∈ wtb := wt (List.mem_of_getElem? (i := 481) (by decide +kernel)) rfl
theorem km0_65 : Cond.methodLink RX0 65 yX7_numberTables ∈ wtb := wt (List.mem_of_getElem? (i := 493) (by decide +kernel)) rfl
theorem km0_69 : Cond.methodLink RX0 69 yX8_find ∈ wtb := wt (List.mem_of_getElem? (i := 505) (by decide +kernel)) rfl
theorem km0_76 : Cond.methodLink RX0 76 yX4_find ∈ wtb := wt (List.mem_of_getElem? (i := 597) (by decide +kernel)) rfl
theorem km0_79 : Cond.methodLink RX0 79 yX8_findMissed ∈ wtb := wt (List.mem_of_getElem? (i := 619) (by decide +kernel)) rfl
theorem km1_19 : Cond.methodLink RX1 19 yX1_firstOf ∈ wtb := wt (List.mem_of_getElem? (i := 448) (by decide +kernel)) rfl
theorem km3_35 : Cond.methodLink RX3 35 yX5_take ∈ wtb := wt (List.mem_of_getElem? (i := 746) (by decide +kernel)) rfl
theorem km4_31 : Cond.methodLink RX4 31 yX4_place ∈ wtb := wt (List.mem_of_getElem? (i := 601) (by decide +kernel)) rfl
theorem km4_35 : Cond.methodLink RX4 35 yX4_putInOrder ∈ wtb := wt (List.mem_of_getElem? (i := 612) (by decide +kernel)) rfl
theorem km4_39 : Cond.methodLink RX4 39 yX5_number ∈ wtb := wt (List.mem_of_getElem? (i := 605) (by decide +kernel)) rfl
theorem km4_49 : Cond.methodLink RX4 49 yX2_lineBefore ∈ wtb := wt (List.mem_of_getElem? (i := 606) (by decide +kernel)) rfl
theorem km4_54 : Cond.methodLink RX4 54 yX8_cellOf ∈ wtb := wt (List.mem_of_getElem? (i := 610) (by decide +kernel)) rfl
theorem km4_57 : Cond.methodLink RX4 57 yX8_hasCell ∈ wtb := wt (List.mem_of_getElem? (i := 611) (by decide +kernel)) rfl
theorem km4_67 : Cond.methodLink RX4 67 yX4_isReadBefore ∈ wtb := wt (List.mem_of_getElem? (i := 616) (by decide +kernel)) rfl
theorem km4_71 : Cond.methodLink RX4 71 yX4_isIn ∈ wtb := wt (List.mem_of_getElem? (i := 631) (by decide +kernel)) rfl
theorem km5_28 : Cond.methodLink RX5 28 yX5_isFull ∈ wtb := wt (List.mem_of_getElem? (i := 392) (by decide +kernel)) rfl
theorem km5_32 : Cond.methodLink RX5 32 yX5_has ∈ wtb := wt (List.mem_of_getElem? (i := 405) (by decide +kernel)) rfl
theorem km6_9 : Cond.methodLink RX6 9 yX5_number ∈ wtb := wt (List.mem_of_getElem? (i := 462) (by decide +kernel)) rfl
theorem km6_53 : Cond.methodLink RX6 53 yX6_covers ∈ wtb := wt (List.mem_of_getElem? (i := 489) (by decide +kernel)) rfl
theorem km7_26 : Cond.methodLink RX7 26 yX7_joinNear ∈ wtb := wt (List.mem_of_getElem? (i := 426) (by decide +kernel)) rfl
theorem km7_36 : Cond.methodLink RX7 36 yX7_gather ∈ wtb := wt (List.mem_of_getElem? (i := 453) (by decide +kernel)) rfl
theorem km7_40 : Cond.methodLink RX7 40 yX7_sort ∈ wtb := wt (List.mem_of_getElem? (i := 469) (by decide +kernel)) rfl
theorem km7_46 : Cond.methodLink RX7 46 yX7_tellPieces ∈ wtb := wt (List.mem_of_getElem? (i := 477) (by decide +kernel)) rfl
theorem km7_50 : Cond.methodLink RX7 50 yX1_part ∈ wtb := wt (List.mem_of_getElem? (i := 429) (by decide +kernel)) rfl
theorem km7_59 : Cond.methodLink RX7 59 yX7_areNear ∈ wtb := wt (List.mem_of_getElem? (i := 433) (by decide +kernel)) rfl
theorem km7_63 : Cond.methodLink RX7 63 yX1_join ∈ wtb := wt (List.mem_of_getElem? (i := 444) (by decide +kernel)) rfl
theorem km7_67 : Cond.methodLink RX7 67 yX5_number ∈ wtb := wt (List.mem_of_getElem? (i := 436) (by decide +kernel)) rfl
theorem km7_83 : Cond.methodLink RX7 83 yX1_firstOf ∈ wtb := wt (List.mem_of_getElem? (i := 457) (by decide +kernel)) rfl
theorem km7_86 : Cond.methodLink RX7 86 yX6_begin ∈ wtb := wt (List.mem_of_getElem? (i := 458) (by decide +kernel)) rfl
theorem km7_90 : Cond.methodLink RX7 90 yX6_takeIn ∈ wtb := wt (List.mem_of_getElem? (i := 463) (by decide +kernel)) rfl
theorem km7_93 : Cond.methodLink RX7 93 yX6_comesBefore ∈ wtb := wt (List.mem_of_getElem? (i := 473) (by decide +kernel)) rfl
theorem km7_100 : Cond.methodLink RX7 100 yX6_crosses ∈ wtb := wt (List.mem_of_getElem? (i := 485) (by decide +kernel)) rfl
theorem km7_107 : Cond.methodLink RX7 107 yX7_countPlaces ∈ wtb := wt (List.mem_of_getElem? (i := 497) (by decide +kernel)) rfl
theorem km7_111 : Cond.methodLink RX7 111 yX7_giveTable ∈ wtb := wt (List.mem_of_getElem? (i := 501) (by decide +kernel)) rfl
theorem km8_42 : Cond.methodLink RX8 42 yX8_takeLines ∈ wtb := wt (List.mem_of_getElem? (i := 509) (by decide +kernel)) rfl
theorem km8_46 : Cond.methodLink RX8 46 yX8_markSides ∈ wtb := wt (List.mem_of_getElem? (i := 525) (by decide +kernel)) rfl
theorem km8_50 : Cond.methodLink RX8 50 yX8_joinFields ∈ wtb := wt (List.mem_of_getElem? (i := 546) (by decide +kernel)) rfl
theorem km8_54 : Cond.methodLink RX8 54 yX8_numberCells ∈ wtb := wt (List.mem_of_getElem? (i := 556) (by decide +kernel)) rfl
theorem km8_57 : Cond.methodLink RX8 57 yX8_markBroken ∈ wtb := wt (List.mem_of_getElem? (i := 569) (by decide +kernel)) rfl
theorem km8_60 : Cond.methodLink RX8 60 yX8_markOpen ∈ wtb := wt (List.mem_of_getElem? (i := 573) (by decide +kernel)) rfl
theorem km8_63 : Cond.methodLink RX8 63 yX8_countHeads ∈ wtb := wt (List.mem_of_getElem? (i := 589) (by decide +kernel)) rfl
theorem km8_77 : Cond.methodLink RX8 77 yX2_clear ∈ wtb := wt (List.mem_of_getElem? (i := 513) (by decide +kernel)) rfl
theorem km8_103 : Cond.methodLink RX8 103 yX2_add ∈ wtb := wt (List.mem_of_getElem? (i := 517) (by decide +kernel)) rfl
theorem km8_116 : Cond.methodLink RX8 116 yX8_hasRoom ∈ wtb := wt (List.mem_of_getElem? (i := 521) (by decide +kernel)) rfl
theorem km8_120 : Cond.methodLink RX8 120 yX8_markSidesOf ∈ wtb := wt (List.mem_of_getElem? (i := 529) (by decide +kernel)) rfl
theorem km8_124 : Cond.methodLink RX8 124 yX2_lineAt ∈ wtb := wt (List.mem_of_getElem? (i := 533) (by decide +kernel)) rfl
theorem km8_127 : Cond.methodLink RX8 127 yX8_sideOf ∈ wtb := wt (List.mem_of_getElem? (i := 537) (by decide +kernel)) rfl
theorem km8_131 : Cond.methodLink RX8 131 yX2_placeOf ∈ wtb := wt (List.mem_of_getElem? (i := 541) (by decide +kernel)) rfl
theorem km8_134 : Cond.methodLink RX8 134 yX6_covers ∈ wtb := wt (List.mem_of_getElem? (i := 545) (by decide +kernel)) rfl
theorem km8_138 : Cond.methodLink RX8 138 yX1_part ∈ wtb := wt (List.mem_of_getElem? (i := 550) (by decide +kernel)) rfl
theorem km8_143 : Cond.methodLink RX8 143 yX8_hasRuled ∈ wtb := wt (List.mem_of_getElem? (i := 551) (by decide +kernel)) rfl
theorem km8_146 : Cond.methodLink RX8 146 yX1_join ∈ wtb := wt (List.mem_of_getElem? (i := 555) (by decide +kernel)) rfl
theorem km8_152 : Cond.methodLink RX8 152 yX1_firstOf ∈ wtb := wt (List.mem_of_getElem? (i := 560) (by decide +kernel)) rfl
theorem km8_156 : Cond.methodLink RX8 156 yX8_beginCell ∈ wtb := wt (List.mem_of_getElem? (i := 561) (by decide +kernel)) rfl
theorem km8_159 : Cond.methodLink RX8 159 yX8_widenCell ∈ wtb := wt (List.mem_of_getElem? (i := 565) (by decide +kernel)) rfl
theorem km8_163 : Cond.methodLink RX8 163 yX8_cellOf ∈ wtb := wt (List.mem_of_getElem? (i := 577) (by decide +kernel)) rfl
theorem km8_166 : Cond.methodLink RX8 166 yX8_openUnless ∈ wtb := wt (List.mem_of_getElem? (i := 581) (by decide +kernel)) rfl
theorem km8_170 : Cond.methodLink RX8 170 yX8_hasCell ∈ wtb := wt (List.mem_of_getElem? (i := 585) (by decide +kernel)) rfl
theorem km8_174 : Cond.methodLink RX8 174 yX8_isOneColumnWide ∈ wtb := wt (List.mem_of_getElem? (i := 593) (by decide +kernel)) rfl
theorem km8_177 : Cond.methodLink RX8 177 yX8_isFirstInColumn ∈ wtb := wt (List.mem_of_getElem? (i := 734) (by decide +kernel)) rfl
theorem km8_181 : Cond.methodLink RX8 181 yX8_findMissedIn ∈ wtb := wt (List.mem_of_getElem? (i := 623) (by decide +kernel)) rfl
theorem km8_185 : Cond.methodLink RX8 185 yX4_keepClear ∈ wtb := wt (List.mem_of_getElem? (i := 627) (by decide +kernel)) rfl
theorem km8_191 : Cond.methodLink RX8 191 yX8_addMissed ∈ wtb := wt (List.mem_of_getElem? (i := 635) (by decide +kernel)) rfl
theorem km8_194 : Cond.methodLink RX8 194 yX5_add ∈ wtb := wt (List.mem_of_getElem? (i := 725) (by decide +kernel)) rfl
theorem km8_199 : Cond.methodLink RX8 199 yX8_countWhole ∈ wtb := wt (List.mem_of_getElem? (i := 680) (by decide +kernel)) rfl
theorem km9_42 : Cond.methodLink RX9 42 yX9_isWay ∈ wtb := wt (List.mem_of_getElem? (i := 375) (by decide +kernel)) rfl
theorem km9_46 : Cond.methodLink RX9 46 yX9_isPlace ∈ wtb := wt (List.mem_of_getElem? (i := 378) (by decide +kernel)) rfl
theorem km9_49 : Cond.methodLink RX9 49 yX9_isStretch ∈ wtb := wt (List.mem_of_getElem? (i := 381) (by decide +kernel)) rfl
theorem km9_57 : Cond.methodLink RX9 57 yX5_isFull ∈ wtb := wt (List.mem_of_getElem? (i := 384) (by decide +kernel)) rfl
theorem km9_63 : Cond.methodLink RX9 63 yX5_add ∈ wtb := wt (List.mem_of_getElem? (i := 388) (by decide +kernel)) rfl
theorem km9_71 : Cond.methodLink RX9 71 yX5_has ∈ wtb := wt (List.mem_of_getElem? (i := 397) (by decide +kernel)) rfl
theorem km9_74 : Cond.methodLink RX9 74 yX5_remove ∈ wtb := wt (List.mem_of_getElem? (i := 401) (by decide +kernel)) rfl
theorem km9_78 : Cond.methodLink RX9 78 yX5_number ∈ wtb := wt (List.mem_of_getElem? (i := 410) (by decide +kernel)) rfl
theorem km9_82 : Cond.methodLink RX9 82 yX9_found ∈ wtb := wt (List.mem_of_getElem? (i := 414) (by decide +kernel)) rfl
theorem km9_110 : Cond.methodLink RX9 110 yX7_has ∈ wtb := wt (List.mem_of_getElem? (i := 655) (by decide +kernel)) rfl
theorem km9_115 : Cond.methodLink RX9 115 yX6_tell ∈ wtb := wt (List.mem_of_getElem? (i := 659) (by decide +kernel)) rfl
theorem km9_121 : Cond.methodLink RX9 121 yX6_crosses ∈ wtb := wt (List.mem_of_getElem? (i := 667) (by decide +kernel)) rfl
theorem km9_125 : Cond.methodLink RX9 125 yX0_has ∈ wtb := wt (List.mem_of_getElem? (i := 672) (by decide +kernel)) rfl
theorem km9_129 : Cond.methodLink RX9 129 yX8_tell ∈ wtb := wt (List.mem_of_getElem? (i := 676) (by decide +kernel)) rfl
theorem km9_136 : Cond.methodLink RX9 136 yX2_placeOf ∈ wtb := wt (List.mem_of_getElem? (i := 688) (by decide +kernel)) rfl
theorem km9_141 : Cond.methodLink RX9 141 yX8_sideOf ∈ wtb := wt (List.mem_of_getElem? (i := 693) (by decide +kernel)) rfl
theorem km9_145 : Cond.methodLink RX9 145 yX8_hasRuled ∈ wtb := wt (List.mem_of_getElem? (i := 694) (by decide +kernel)) rfl
theorem km9_149 : Cond.methodLink RX9 149 yX8_cellOf ∈ wtb := wt (List.mem_of_getElem? (i := 699) (by decide +kernel)) rfl
theorem km9_152 : Cond.methodLink RX9 152 yX8_hasCell ∈ wtb := wt (List.mem_of_getElem? (i := 704) (by decide +kernel)) rfl
theorem km9_158 : Cond.methodLink RX9 158 yX4_wordRead ∈ wtb := wt (List.mem_of_getElem? (i := 709) (by decide +kernel)) rfl
theorem km9_167 : Cond.methodLink RX9 167 yX8_drawMissed ∈ wtb := wt (List.mem_of_getElem? (i := 721) (by decide +kernel)) rfl
theorem km9_174 : Cond.methodLink RX9 174 yX8_headingOf ∈ wtb := wt (List.mem_of_getElem? (i := 730) (by decide +kernel)) rfl
theorem km9_177 : Cond.methodLink RX9 177 yX3_take ∈ wtb := wt (List.mem_of_getElem? (i := 742) (by decide +kernel)) rfl
theorem km9_188 : Cond.methodLink RX9 188 yX0_find ∈ wtb := wt (List.mem_of_getElem? (i := 418) (by decide +kernel)) rfl
theorem km10_64 : Cond.methodLink RX10 64 yX10_in ∈ wtb := wt (List.mem_of_getElem? (i := 854) (by decide +kernel)) rfl
theorem km10_84 : Cond.methodLink RX10 84 yX10_isPlace ∈ wtb := wt (List.mem_of_getElem? (i := 864) (by decide +kernel)) rfl
theorem km10_88 : Cond.methodLink RX10 88 yX10_addPiece ∈ wtb := wt (List.mem_of_getElem? (i := 868) (by decide +kernel)) rfl
theorem km10_95 : Cond.methodLink RX10 95 yX10_pieceAt ∈ wtb := wt (List.mem_of_getElem? (i := 905) (by decide +kernel)) rfl
theorem km10_99 : Cond.methodLink RX10 99 yX10_greater ∈ wtb := wt (List.mem_of_getElem? (i := 909) (by decide +kernel)) rfl
theorem km10_102 : Cond.methodLink RX10 102 yX10_less ∈ wtb := wt (List.mem_of_getElem? (i := 912) (by decide +kernel)) rfl
theorem km10_108 : Cond.methodLink RX10 108 yX10_ruleAt ∈ wtb := wt (List.mem_of_getElem? (i := 931) (by decide +kernel)) rfl
theorem km10_111 : Cond.methodLink RX10 111 yX10_isRuleBefore ∈ wtb := wt (List.mem_of_getElem? (i := 927) (by decide +kernel)) rfl
theorem km10_115 : Cond.methodLink RX10 115 yX10_begin ∈ wtb := wt (List.mem_of_getElem? (i := 897) (by decide +kernel)) rfl
theorem km10_119 : Cond.methodLink RX10 119 yX10_isNear ∈ wtb := wt (List.mem_of_getElem? (i := 901) (by decide +kernel)) rfl
theorem km10_122 : Cond.methodLink RX10 122 yX10_join ∈ wtb := wt (List.mem_of_getElem? (i := 915) (by decide +kernel)) rfl
theorem km10_126 : Cond.methodLink RX10 126 yX10_addRule ∈ wtb := wt (List.mem_of_getElem? (i := 919) (by decide +kernel)) rfl
theorem km10_129 : Cond.methodLink RX10 129 yX10_sortRules ∈ wtb := wt (List.mem_of_getElem? (i := 923) (by decide +kernel)) rfl
theorem km10_132 : Cond.methodLink RX10 132 yX10_lies ∈ wtb := wt (List.mem_of_getElem? (i := 943) (by decide +kernel)) rfl
theorem km10_135 : Cond.methodLink RX10 135 yX10_isCross ∈ wtb := wt (List.mem_of_getElem? (i := 939) (by decide +kernel)) rfl
theorem km10_141 : Cond.methodLink RX10 141 yX10_countLines ∈ wtb := wt (List.mem_of_getElem? (i := 947) (by decide +kernel)) rfl
theorem km10_144 : Cond.methodLink RX10 144 yX10_layLines ∈ wtb := wt (List.mem_of_getElem? (i := 951) (by decide +kernel)) rfl
theorem km10_148 : Cond.methodLink RX10 148 yX10_rowsOf ∈ wtb := wt (List.mem_of_getElem? (i := 963) (by decide +kernel)) rfl
theorem km10_152 : Cond.methodLink RX10 152 yX10_columnsOf ∈ wtb := wt (List.mem_of_getElem? (i := 959) (by decide +kernel)) rfl
theorem km10_155 : Cond.methodLink RX10 155 yX10_lineAt ∈ wtb := wt (List.mem_of_getElem? (i := 971) (by decide +kernel)) rfl
theorem km10_159 : Cond.methodLink RX10 159 yX10_reaches ∈ wtb := wt (List.mem_of_getElem? (i := 975) (by decide +kernel)) rfl
theorem km10_163 : Cond.methodLink RX10 163 yX10_isRuled ∈ wtb := wt (List.mem_of_getElem? (i := 967) (by decide +kernel)) rfl
theorem km10_167 : Cond.methodLink RX10 167 yX10_addField ∈ wtb := wt (List.mem_of_getElem? (i := 979) (by decide +kernel)) rfl
theorem km10_170 : Cond.methodLink RX10 170 yX10_isOpen ∈ wtb := wt (List.mem_of_getElem? (i := 983) (by decide +kernel)) rfl
theorem km10_174 : Cond.methodLink RX10 174 yX10_cellAt ∈ wtb := wt (List.mem_of_getElem? (i := 987) (by decide +kernel)) rfl
theorem km10_177 : Cond.methodLink RX10 177 yX10_boxAt ∈ wtb := wt (List.mem_of_getElem? (i := 995) (by decide +kernel)) rfl
theorem km10_180 : Cond.methodLink RX10 180 yX10_between ∈ wtb := wt (List.mem_of_getElem? (i := 999) (by decide +kernel)) rfl
theorem km10_183 : Cond.methodLink RX10 183 yX10_findRules ∈ wtb := wt (List.mem_of_getElem? (i := 893) (by decide +kernel)) rfl
theorem km10_186 : Cond.methodLink RX10 186 yX10_findTables ∈ wtb := wt (List.mem_of_getElem? (i := 935) (by decide +kernel)) rfl
theorem km10_189 : Cond.methodLink RX10 189 yX10_findCells ∈ wtb := wt (List.mem_of_getElem? (i := 955) (by decide +kernel)) rfl
theorem km10_192 : Cond.methodLink RX10 192 yX10_findWord ∈ wtb := wt (List.mem_of_getElem? (i := 991) (by decide +kernel)) rfl
theorem km10_195 : Cond.methodLink RX10 195 yX10_findAll ∈ wtb := wt (List.mem_of_getElem? (i := 889) (by decide +kernel)) rfl
theorem km10_198 : Cond.methodLink RX10 198 yX10_isTable ∈ wtb := wt (List.mem_of_getElem? (i := 1024) (by decide +kernel)) rfl
theorem km10_203 : Cond.methodLink RX10 203 yX10_isRule ∈ wtb := wt (List.mem_of_getElem? (i := 1011) (by decide +kernel)) rfl
theorem km10_208 : Cond.methodLink RX10 208 yX10_wordsBy ∈ wtb := wt (List.mem_of_getElem? (i := 1036) (by decide +kernel)) rfl
theorem km10_223 : Cond.methodLink RX10 223 yX10_missBy ∈ wtb := wt (List.mem_of_getElem? (i := 1032) (by decide +kernel)) rfl
theorem km10_226 : Cond.methodLink RX10 226 yX10_findMissed ∈ wtb := wt (List.mem_of_getElem? (i := 1028) (by decide +kernel)) rfl
theorem km10_229 : Cond.methodLink RX10 229 yX10_layComing ∈ wtb := wt (List.mem_of_getElem? (i := 1044) (by decide +kernel)) rfl
theorem km10_232 : Cond.methodLink RX10 232 yX10_isNarrow ∈ wtb := wt (List.mem_of_getElem? (i := 1064) (by decide +kernel)) rfl
theorem km10_235 : Cond.methodLink RX10 235 yX10_rulesOf ∈ wtb := wt (List.mem_of_getElem? (i := 1052) (by decide +kernel)) rfl
theorem km10_238 : Cond.methodLink RX10 238 yX10_wordsOf ∈ wtb := wt (List.mem_of_getElem? (i := 1056) (by decide +kernel)) rfl
theorem km10_241 : Cond.methodLink RX10 241 yX10_headsOf ∈ wtb := wt (List.mem_of_getElem? (i := 1060) (by decide +kernel)) rfl
theorem km10_244 : Cond.methodLink RX10 244 yX10_wholeOf ∈ wtb := wt (List.mem_of_getElem? (i := 1068) (by decide +kernel)) rfl
theorem km10_247 : Cond.methodLink RX10 247 yX10_isSide ∈ wtb := wt (List.mem_of_getElem? (i := 1080) (by decide +kernel)) rfl
theorem km10_250 : Cond.methodLink RX10 250 yX10_isCell ∈ wtb := wt (List.mem_of_getElem? (i := 1092) (by decide +kernel)) rfl
theorem km10_255 : Cond.methodLink RX10 255 yX10_wordsIn ∈ wtb := wt (List.mem_of_getElem? (i := 1097) (by decide +kernel)) rfl
theorem km10_258 : Cond.methodLink RX10 258 yX10_isWordOf ∈ wtb := wt (List.mem_of_getElem? (i := 1105) (by decide +kernel)) rfl
theorem km10_261 : Cond.methodLink RX10 261 yX10_isReadBefore ∈ wtb := wt (List.mem_of_getElem? (i := 1109) (by decide +kernel)) rfl
theorem km10_264 : Cond.methodLink RX10 264 yX10_at ∈ wtb := wt (List.mem_of_getElem? (i := 1117) (by decide +kernel)) rfl
theorem km10_273 : Cond.methodLink RX10 273 yX10_pass ∈ wtb := wt (List.mem_of_getElem? (i := 1126) (by decide +kernel)) rfl
theorem km10_276 : Cond.methodLink RX10 276 yX10_passRow ∈ wtb := wt (List.mem_of_getElem? (i := 1130) (by decide +kernel)) rfl
theorem km10_280 : Cond.methodLink RX10 280 yX10_passAll ∈ wtb := wt (List.mem_of_getElem? (i := 1122) (by decide +kernel)) rfl
