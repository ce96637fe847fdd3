/-! ===== BEGIN printed: names, fields, word lists, decode rows ===== -/
def RX0 : String := "Orderlattice$Auditor"
def TX0 : u_T := fun k => match k with
  | 0 => ("Orderlattice$Auditor", "sorter", "LOrderlattice$Sorter;", true)
  | 1 => ("Orderlattice$Auditor", "left", "LOrderlattice$Row;", true)
  | 2 => ("Orderlattice$Auditor", "right", "LOrderlattice$Row;", true)
  | _ => ("Orderlattice$Auditor", "made", "LOrderlattice$Order;", true)
def tyX0 : Nat → FieldType := fun k => match k with
  | 0 => .object "Orderlattice$Sorter"
  | 1 => .object "Orderlattice$Row"
  | 2 => .object "Orderlattice$Row"
  | _ => .object "Orderlattice$Order"
theorem nmX0 : ∀ a, a < 4 → ∀ b, b < 4 → a ≠ b → (TX0 a).2.1 ≠ (TX0 b).2.1 := by decide +kernel
theorem tyX0_ok : ∀ k, k < 4 → parseFieldDescriptor (TX0 k).2.2.1 = some (tyX0 k) := by decide +kernel
abbrev cX0_init : ByteArray := prog_2_method_1_code
def yX0_init : MethodName := ⟨RX0, "<init>", "()V"⟩
abbrev cX0_isRefiningSound : ByteArray := prog_2_method_2_code
def yX0_isRefiningSound : MethodName := ⟨RX0, "isRefiningSound", "(LOrderlattice$Order;LOrderlattice$Order;)Z"⟩
abbrev cX0_isProductAlike : ByteArray := prog_2_method_3_code
def yX0_isProductAlike : MethodName := ⟨RX0, "isProductAlike", "(LOrderlattice$Row;LOrderlattice$Order;LOrderlattice$Order;)Z"⟩
abbrev cX0_areSignsTurned : ByteArray := prog_2_method_4_code
def yX0_areSignsTurned : MethodName := ⟨RX0, "areSignsTurned", "(LOrderlattice$Order;)Z"⟩
abbrev cX0_areRanksAsClasses : ByteArray := prog_2_method_5_code
def yX0_areRanksAsClasses : MethodName := ⟨RX0, "areRanksAsClasses", "(LOrderlattice$Order;)Z"⟩
abbrev cX0_isRankOfSome : ByteArray := prog_2_method_6_code
def yX0_isRankOfSome : MethodName := ⟨RX0, "isRankOfSome", "(LOrderlattice$Order;I)Z"⟩
abbrev cX0_isFinerBySorting : ByteArray := prog_2_method_7_code
def yX0_isFinerBySorting : MethodName := ⟨RX0, "isFinerBySorting", "(LOrderlattice$Order;LOrderlattice$Order;)Z"⟩
abbrev cX0_areAlikeAlike : ByteArray := prog_2_method_8_code
def yX0_areAlikeAlike : MethodName := ⟨RX0, "areAlikeAlike", "(LOrderlattice$Order;LOrderlattice$Order;)Z"⟩
abbrev cX0_areWaysAgreed : ByteArray := prog_2_method_9_code
def yX0_areWaysAgreed : MethodName := ⟨RX0, "areWaysAgreed", "(LOrderlattice$Row;LOrderlattice$Order;)Z"⟩
abbrev cX0_staysSorted : ByteArray := prog_2_method_10_code
def yX0_staysSorted : MethodName := ⟨RX0, "staysSorted", "(LOrderlattice$Row;LOrderlattice$Order;)Z"⟩
abbrev cX0_isTurnedAlike : ByteArray := prog_2_method_11_code
def yX0_isTurnedAlike : MethodName := ⟨RX0, "isTurnedAlike", "(LOrderlattice$Row;LOrderlattice$Order;)Z"⟩
abbrev cX0_isQueuedAlike : ByteArray := prog_2_method_12_code
def yX0_isQueuedAlike : MethodName := ⟨RX0, "isQueuedAlike", "(LOrderlattice$Row;LOrderlattice$Order;)Z"⟩
def RX1 : String := "Orderlattice$Order"
def TX1 : u_T := fun k => match k with
  | 0 => ("Orderlattice$Order", "keys", "[I", true)
  | 1 => ("Orderlattice$Order", "downs", "[Z", true)
  | 2 => ("Orderlattice$Order", "codes", "[J", true)
  | 3 => ("Orderlattice$Order", "ranks", "[I", true)
  | 4 => ("Orderlattice$Order", "many", "I", false)
  | _ => ("Orderlattice$Order", "classes", "I", false)
def tyX1 : Nat → FieldType := fun k => match k with
  | 0 => .array .int
  | 1 => .array .boolean
  | 2 => .array .long
  | 3 => .array .int
  | 4 => .int
  | _ => .int
theorem nmX1 : ∀ a, a < 6 → ∀ b, b < 6 → a ≠ b → (TX1 a).2.1 ≠ (TX1 b).2.1 := by decide +kernel
theorem tyX1_ok : ∀ k, k < 6 → parseFieldDescriptor (TX1 k).2.2.1 = some (tyX1 k) := by decide +kernel
abbrev cX1_init : ByteArray := prog_3_method_1_code
def yX1_init : MethodName := ⟨RX1, "<init>", "()V"⟩
abbrev cX1_numberBy : ByteArray := prog_3_method_2_code
def yX1_numberBy : MethodName := ⟨RX1, "numberBy", "(II)I"⟩
abbrev cX1_length : ByteArray := prog_3_method_3_code
def yX1_length : MethodName := ⟨RX1, "length", "()I"⟩
abbrev cX1_keyOn : ByteArray := prog_3_method_4_code
def yX1_keyOn : MethodName := ⟨RX1, "keyOn", "(I)I"⟩
abbrev cX1_isDownOn : ByteArray := prog_3_method_5_code
def yX1_isDownOn : MethodName := ⟨RX1, "isDownOn", "(I)Z"⟩
abbrev cX1_downSteps : ByteArray := prog_3_method_6_code
def yX1_downSteps : MethodName := ⟨RX1, "downSteps", "()I"⟩
abbrev cX1_append : ByteArray := prog_3_method_7_code
def yX1_append : MethodName := ⟨RX1, "append", "(IZ)V"⟩
abbrev cX1_removeLast : ByteArray := prog_3_method_8_code
def yX1_removeLast : MethodName := ⟨RX1, "removeLast", "()V"⟩
abbrev cX1_empty : ByteArray := prog_3_method_9_code
def yX1_empty : MethodName := ⟨RX1, "empty", "()V"⟩
abbrev cX1_reverse : ByteArray := prog_3_method_10_code
def yX1_reverse : MethodName := ⟨RX1, "reverse", "()V"⟩
abbrev cX1_becomeCopyOf : ByteArray := prog_3_method_11_code
def yX1_becomeCopyOf : MethodName := ⟨RX1, "becomeCopyOf", "(LOrderlattice$Order;)V"⟩
abbrev cX1_becomeProductOf : ByteArray := prog_3_method_12_code
def yX1_becomeProductOf : MethodName := ⟨RX1, "becomeProductOf", "(LOrderlattice$Order;LOrderlattice$Order;)V"⟩
abbrev cX1_compared : ByteArray := prog_3_method_13_code
def yX1_compared : MethodName := ⟨RX1, "compared", "(II)I"⟩
abbrev cX1_classCount : ByteArray := prog_3_method_14_code
def yX1_classCount : MethodName := ⟨RX1, "classCount", "()I"⟩
abbrev cX1_rankOf : ByteArray := prog_3_method_15_code
def yX1_rankOf : MethodName := ⟨RX1, "rankOf", "(I)I"⟩
abbrev cX1_isFinerThan : ByteArray := prog_3_method_16_code
def yX1_isFinerThan : MethodName := ⟨RX1, "isFinerThan", "(LOrderlattice$Order;)Z"⟩
abbrev cX1_comparesLike : ByteArray := prog_3_method_17_code
def yX1_comparesLike : MethodName := ⟨RX1, "comparesLike", "(LOrderlattice$Order;)Z"⟩
abbrev cX1_told : ByteArray := prog_3_method_18_code
def yX1_told : MethodName := ⟨RX1, "told", "()Ljava/lang/String;"⟩
abbrev cX1_addStep : ByteArray := prog_3_method_19_code
def yX1_addStep : MethodName := ⟨RX1, "addStep", "(IZ)V"⟩
abbrev cX1_addSteps : ByteArray := prog_3_method_20_code
def yX1_addSteps : MethodName := ⟨RX1, "addSteps", "(LOrderlattice$Order;I)V"⟩
abbrev cX1_settle : ByteArray := prog_3_method_21_code
def yX1_settle : MethodName := ⟨RX1, "settle", "()V"⟩
abbrev cX1_rankAll : ByteArray := prog_3_method_22_code
def yX1_rankAll : MethodName := ⟨RX1, "rankAll", "()V"⟩
abbrev cX1_isFirstOfClass : ByteArray := prog_3_method_23_code
def yX1_isFirstOfClass : MethodName := ⟨RX1, "isFirstOfClass", "(I)Z"⟩
abbrev cX1_pushBackBehind : ByteArray := prog_3_method_24_code
def yX1_pushBackBehind : MethodName := ⟨RX1, "pushBackBehind", "(J)V"⟩
def RX2 : String := "Orderlattice$Row"
def TX2 : u_T := fun k => match k with
  | 0 => ("Orderlattice$Row", "values", "[I", true)
  | 1 => ("Orderlattice$Row", "marks", "[I", true)
  | _ => ("Orderlattice$Row", "many", "I", false)
def tyX2 : Nat → FieldType := fun k => match k with
  | 0 => .array .int
  | 1 => .array .int
  | _ => .int
theorem nmX2 : ∀ a, a < 3 → ∀ b, b < 3 → a ≠ b → (TX2 a).2.1 ≠ (TX2 b).2.1 := by decide +kernel
theorem tyX2_ok : ∀ k, k < 3 → parseFieldDescriptor (TX2 k).2.2.1 = some (tyX2 k) := by decide +kernel
abbrev cX2_init : ByteArray := prog_4_method_1_code
def yX2_init : MethodName := ⟨RX2, "<init>", "()V"⟩
abbrev cX2_length : ByteArray := prog_4_method_2_code
def yX2_length : MethodName := ⟨RX2, "length", "()I"⟩
abbrev cX2_valueOn : ByteArray := prog_4_method_3_code
def yX2_valueOn : MethodName := ⟨RX2, "valueOn", "(I)I"⟩
abbrev cX2_markOn : ByteArray := prog_4_method_4_code
def yX2_markOn : MethodName := ⟨RX2, "markOn", "(I)I"⟩
abbrev cX2_replace : ByteArray := prog_4_method_5_code
def yX2_replace : MethodName := ⟨RX2, "replace", "(III)V"⟩
abbrev cX2_append : ByteArray := prog_4_method_6_code
def yX2_append : MethodName := ⟨RX2, "append", "(II)V"⟩
abbrev cX2_insert : ByteArray := prog_4_method_7_code
def yX2_insert : MethodName := ⟨RX2, "insert", "(III)V"⟩
abbrev cX2_remove : ByteArray := prog_4_method_8_code
def yX2_remove : MethodName := ⟨RX2, "remove", "(I)V"⟩
abbrev cX2_empty : ByteArray := prog_4_method_9_code
def yX2_empty : MethodName := ⟨RX2, "empty", "()V"⟩
abbrev cX2_becomeCopyOf : ByteArray := prog_4_method_10_code
def yX2_becomeCopyOf : MethodName := ⟨RX2, "becomeCopyOf", "(LOrderlattice$Row;)V"⟩
abbrev cX2_becomeAllValues : ByteArray := prog_4_method_11_code
def yX2_becomeAllValues : MethodName := ⟨RX2, "becomeAllValues", "()V"⟩
abbrev cX2_reverse : ByteArray := prog_4_method_12_code
def yX2_reverse : MethodName := ⟨RX2, "reverse", "()V"⟩
abbrev cX2_exchange : ByteArray := prog_4_method_13_code
def yX2_exchange : MethodName := ⟨RX2, "exchange", "(II)V"⟩
abbrev cX2_placesUnlike : ByteArray := prog_4_method_14_code
def yX2_placesUnlike : MethodName := ⟨RX2, "placesUnlike", "(LOrderlattice$Row;)I"⟩
abbrev cX2_isLike : ByteArray := prog_4_method_15_code
def yX2_isLike : MethodName := ⟨RX2, "isLike", "(LOrderlattice$Row;)Z"⟩
abbrev cX2_isInSequenceBy : ByteArray := prog_4_method_16_code
def yX2_isInSequenceBy : MethodName := ⟨RX2, "isInSequenceBy", "(LOrderlattice$Order;)Z"⟩
abbrev cX2_hasAlike : ByteArray := prog_4_method_17_code
def yX2_hasAlike : MethodName := ⟨RX2, "hasAlike", "(LOrderlattice$Order;I)Z"⟩
abbrev cX2_thingsAhead : ByteArray := prog_4_method_18_code
def yX2_thingsAhead : MethodName := ⟨RX2, "thingsAhead", "(LOrderlattice$Order;I)I"⟩
abbrev cX2_firstPlaceBy : ByteArray := prog_4_method_19_code
def yX2_firstPlaceBy : MethodName := ⟨RX2, "firstPlaceBy", "(LOrderlattice$Order;)I"⟩
abbrev cX2_lastPlaceBy : ByteArray := prog_4_method_20_code
def yX2_lastPlaceBy : MethodName := ⟨RX2, "lastPlaceBy", "(LOrderlattice$Order;)I"⟩
abbrev cX2_nearestPlace : ByteArray := prog_4_method_21_code
def yX2_nearestPlace : MethodName := ⟨RX2, "nearestPlace", "(LOrderlattice$Order;II)I"⟩
abbrev cX2_lots : ByteArray := prog_4_method_22_code
def yX2_lots : MethodName := ⟨RX2, "lots", "(LOrderlattice$Order;)I"⟩
abbrev cX2_lotsAhead : ByteArray := prog_4_method_23_code
def yX2_lotsAhead : MethodName := ⟨RX2, "lotsAhead", "(LOrderlattice$Order;I)I"⟩
abbrev cX2_told : ByteArray := prog_4_method_24_code
def yX2_told : MethodName := ⟨RX2, "told", "()Ljava/lang/String;"⟩
abbrev cX2_lotsTold : ByteArray := prog_4_method_25_code
def yX2_lotsTold : MethodName := ⟨RX2, "lotsTold", "(LOrderlattice$Order;)Ljava/lang/String;"⟩
abbrev cX2_appendLot : ByteArray := prog_4_method_26_code
def yX2_appendLot : MethodName := ⟨RX2, "appendLot", "(Ljava/lang/StringBuilder;LOrderlattice$Order;I)V"⟩
abbrev cX2_isOnSide : ByteArray := prog_4_method_27_code
def yX2_isOnSide : MethodName := ⟨RX2, "isOnSide", "(II)Z"⟩
abbrev cX2_isNearer : ByteArray := prog_4_method_28_code
def yX2_isNearer : MethodName := ⟨RX2, "isNearer", "(LOrderlattice$Order;III)Z"⟩
abbrev cX2_isFirstOfLot : ByteArray := prog_4_method_29_code
def yX2_isFirstOfLot : MethodName := ⟨RX2, "isFirstOfLot", "(LOrderlattice$Order;I)Z"⟩
def RX3 : String := "Orderlattice$Sorter"
def TX3 : u_T := fun k => match k with
  | _ => ("Orderlattice$Sorter", "gathered", "LOrderlattice$Row;", true)
def tyX3 : Nat → FieldType := fun k => match k with
  | _ => .object "Orderlattice$Row"
theorem nmX3 : ∀ a, a < 1 → ∀ b, b < 1 → a ≠ b → (TX3 a).2.1 ≠ (TX3 b).2.1 := by decide +kernel
theorem tyX3_ok : ∀ k, k < 1 → parseFieldDescriptor (TX3 k).2.2.1 = some (tyX3 k) := by decide +kernel
abbrev cX3_init : ByteArray := prog_5_method_1_code
def yX3_init : MethodName := ⟨RX3, "<init>", "()V"⟩
abbrev cX3_arrangeAll : ByteArray := prog_5_method_2_code
def yX3_arrangeAll : MethodName := ⟨RX3, "arrangeAll", "(LOrderlattice$Row;LOrderlattice$Order;I)V"⟩
abbrev cX3_insertEach : ByteArray := prog_5_method_3_code
def yX3_insertEach : MethodName := ⟨RX3, "insertEach", "(LOrderlattice$Row;LOrderlattice$Order;II)V"⟩
abbrev cX3_mergeRuns : ByteArray := prog_5_method_4_code
def yX3_mergeRuns : MethodName := ⟨RX3, "mergeRuns", "(LOrderlattice$Row;LOrderlattice$Order;)V"⟩
abbrev cX3_mergeTwo : ByteArray := prog_5_method_5_code
def yX3_mergeTwo : MethodName := ⟨RX3, "mergeTwo", "(LOrderlattice$Row;LOrderlattice$Order;III)V"⟩
abbrev cX3_gatherByRank : ByteArray := prog_5_method_6_code
def yX3_gatherByRank : MethodName := ⟨RX3, "gatherByRank", "(LOrderlattice$Row;LOrderlattice$Order;)V"⟩
def RX4 : String := "Orderlattice"
def TX4 : u_T := fun k => match k with
  | 0 => ("Orderlattice", "rows", "[LOrderlattice$Row;", true)
  | 1 => ("Orderlattice", "orders", "[LOrderlattice$Order;", true)
  | 2 => ("Orderlattice", "sorter", "LOrderlattice$Sorter;", true)
  | 3 => ("Orderlattice", "auditor", "LOrderlattice$Auditor;", true)
  | 4 => ("Orderlattice", "spareRow", "LOrderlattice$Row;", true)
  | 5 => ("Orderlattice", "spareOrder", "LOrderlattice$Order;", true)
  | 6 => ("Orderlattice", "marksGiven", "I", false)
  | 7 => ("Orderlattice", "refusals", "I", false)
  | _ => ("Orderlattice", "knocks", "I", false)
def tyX4 : Nat → FieldType := fun k => match k with
  | 0 => .array (.object "Orderlattice$Row")
  | 1 => .array (.object "Orderlattice$Order")
  | 2 => .object "Orderlattice$Sorter"
  | 3 => .object "Orderlattice$Auditor"
  | 4 => .object "Orderlattice$Row"
  | 5 => .object "Orderlattice$Order"
  | 6 => .int
  | 7 => .int
  | _ => .int
theorem nmX4 : ∀ a, a < 9 → ∀ b, b < 9 → a ≠ b → (TX4 a).2.1 ≠ (TX4 b).2.1 := by decide +kernel
theorem tyX4_ok : ∀ k, k < 9 → parseFieldDescriptor (TX4 k).2.2.1 = some (tyX4 k) := by decide +kernel
abbrev cX4_init : ByteArray := prog_1_method_1_code
def yX4_init : MethodName := ⟨RX4, "<init>", "()V"⟩
abbrev cX4_put : ByteArray := prog_1_method_2_code
def yX4_put : MethodName := ⟨RX4, "put", "(II)I"⟩
abbrev cX4_putAt : ByteArray := prog_1_method_3_code
def yX4_putAt : MethodName := ⟨RX4, "putAt", "(III)I"⟩
abbrev cX4_fill : ByteArray := prog_1_method_4_code
def yX4_fill : MethodName := ⟨RX4, "fill", "(IIII)I"⟩
abbrev cX4_drop : ByteArray := prog_1_method_5_code
def yX4_drop : MethodName := ⟨RX4, "drop", "(II)I"⟩
abbrev cX4_clear : ByteArray := prog_1_method_6_code
def yX4_clear : MethodName := ⟨RX4, "clear", "(I)I"⟩
abbrev cX4_copyRow : ByteArray := prog_1_method_7_code
def yX4_copyRow : MethodName := ⟨RX4, "copyRow", "(II)I"⟩
abbrev cX4_turnRow : ByteArray := prog_1_method_8_code
def yX4_turnRow : MethodName := ⟨RX4, "turnRow", "(I)I"⟩
abbrev cX4_wheel : ByteArray := prog_1_method_9_code
def yX4_wheel : MethodName := ⟨RX4, "wheel", "(II)I"⟩
abbrev cX4_swap : ByteArray := prog_1_method_10_code
def yX4_swap : MethodName := ⟨RX4, "swap", "(III)I"⟩
abbrev cX4_sort : ByteArray := prog_1_method_11_code
def yX4_sort : MethodName := ⟨RX4, "sort", "(III)I"⟩
abbrev cX4_sortPart : ByteArray := prog_1_method_12_code
def yX4_sortPart : MethodName := ⟨RX4, "sortPart", "(IIII)I"⟩
abbrev cX4_isSorted : ByteArray := prog_1_method_13_code
def yX4_isSorted : MethodName := ⟨RX4, "isSorted", "(II)Z"⟩
abbrev cX4_size : ByteArray := prog_1_method_14_code
def yX4_size : MethodName := ⟨RX4, "size", "(I)I"⟩
abbrev cX4_valueAt : ByteArray := prog_1_method_15_code
def yX4_valueAt : MethodName := ⟨RX4, "valueAt", "(II)I"⟩
abbrev cX4_markAt : ByteArray := prog_1_method_16_code
def yX4_markAt : MethodName := ⟨RX4, "markAt", "(II)I"⟩
abbrev cX4_text : ByteArray := prog_1_method_17_code
def yX4_text : MethodName := ⟨RX4, "text", "(I)Ljava/lang/String;"⟩
abbrev cX4_extreme : ByteArray := prog_1_method_18_code
def yX4_extreme : MethodName := ⟨RX4, "extreme", "(IIZ)I"⟩
abbrev cX4_search : ByteArray := prog_1_method_19_code
def yX4_search : MethodName := ⟨RX4, "search", "(III)I"⟩
abbrev cX4_near : ByteArray := prog_1_method_20_code
def yX4_near : MethodName := ⟨RX4, "near", "(IIII)I"⟩
abbrev cX4_kinds : ByteArray := prog_1_method_21_code
def yX4_kinds : MethodName := ⟨RX4, "kinds", "(II)I"⟩
abbrev cX4_ahead : ByteArray := prog_1_method_22_code
def yX4_ahead : MethodName := ⟨RX4, "ahead", "(III)I"⟩
abbrev cX4_groups : ByteArray := prog_1_method_23_code
def yX4_groups : MethodName := ⟨RX4, "groups", "(II)Ljava/lang/String;"⟩
abbrev cX4_ranks : ByteArray := prog_1_method_24_code
def yX4_ranks : MethodName := ⟨RX4, "ranks", "(IIZ)Ljava/lang/String;"⟩
abbrev cX4_step : ByteArray := prog_1_method_25_code
def yX4_step : MethodName := ⟨RX4, "step", "(IIZ)I"⟩
abbrev cX4_unstep : ByteArray := prog_1_method_26_code
def yX4_unstep : MethodName := ⟨RX4, "unstep", "(I)I"⟩
abbrev cX4_wipe : ByteArray := prog_1_method_27_code
def yX4_wipe : MethodName := ⟨RX4, "wipe", "(I)I"⟩
abbrev cX4_copyOrder : ByteArray := prog_1_method_28_code
def yX4_copyOrder : MethodName := ⟨RX4, "copyOrder", "(II)I"⟩
abbrev cX4_turn : ByteArray := prog_1_method_29_code
def yX4_turn : MethodName := ⟨RX4, "turn", "(I)I"⟩
abbrev cX4_product : ByteArray := prog_1_method_30_code
def yX4_product : MethodName := ⟨RX4, "product", "(III)I"⟩
abbrev cX4_tellApart : ByteArray := prog_1_method_31_code
def yX4_tellApart : MethodName := ⟨RX4, "tellApart", "(III)I"⟩
abbrev cX4_orderText : ByteArray := prog_1_method_32_code
def yX4_orderText : MethodName := ⟨RX4, "orderText", "(I)Ljava/lang/String;"⟩
abbrev cX4_compare : ByteArray := prog_1_method_33_code
def yX4_compare : MethodName := ⟨RX4, "compare", "(III)I"⟩
abbrev cX4_both : ByteArray := prog_1_method_34_code
def yX4_both : MethodName := ⟨RX4, "both", "(IIII)I"⟩
abbrev cX4_refines : ByteArray := prog_1_method_35_code
def yX4_refines : MethodName := ⟨RX4, "refines", "(II)Z"⟩
abbrev cX4_areSame : ByteArray := prog_1_method_36_code
def yX4_areSame : MethodName := ⟨RX4, "areSame", "(II)Z"⟩
abbrev cX4_apart : ByteArray := prog_1_method_37_code
def yX4_apart : MethodName := ⟨RX4, "apart", "(II)I"⟩
abbrev cX4_classes : ByteArray := prog_1_method_38_code
def yX4_classes : MethodName := ⟨RX4, "classes", "(I)I"⟩
abbrev cX4_rank : ByteArray := prog_1_method_39_code
def yX4_rank : MethodName := ⟨RX4, "rank", "(II)I"⟩
abbrev cX4_keyOf : ByteArray := prog_1_method_40_code
def yX4_keyOf : MethodName := ⟨RX4, "keyOf", "(II)I"⟩
abbrev cX4_knock : ByteArray := prog_1_method_41_code
def yX4_knock : MethodName := ⟨RX4, "knock", "()I"⟩
abbrev cX4_house : ByteArray := prog_1_method_42_code
def yX4_house : MethodName := ⟨RX4, "house", "(I)I"⟩
abbrev cX4_isSound : ByteArray := prog_1_method_43_code
def yX4_isSound : MethodName := ⟨RX4, "isSound", "()Z"⟩
abbrev cX4_digest : ByteArray := prog_1_method_44_code
def yX4_digest : MethodName := ⟨RX4, "digest", "()J"⟩
abbrev cX4_rowAt : ByteArray := prog_1_method_45_code
def yX4_rowAt : MethodName := ⟨RX4, "rowAt", "(I)LOrderlattice$Row;"⟩
abbrev cX4_orderAt : ByteArray := prog_1_method_46_code
def yX4_orderAt : MethodName := ⟨RX4, "orderAt", "(I)LOrderlattice$Order;"⟩
abbrev cX4_demandPlace : ByteArray := prog_1_method_47_code
def yX4_demandPlace : MethodName := ⟨RX4, "demandPlace", "(LOrderlattice$Row;I)V"⟩
abbrev cX4_demandGap : ByteArray := prog_1_method_48_code
def yX4_demandGap : MethodName := ⟨RX4, "demandGap", "(LOrderlattice$Row;I)V"⟩
abbrev cX4_demandValue : ByteArray := prog_1_method_49_code
def yX4_demandValue : MethodName := ⟨RX4, "demandValue", "(I)V"⟩
abbrev cX4_demandWithin : ByteArray := prog_1_method_50_code
def yX4_demandWithin : MethodName := ⟨RX4, "demandWithin", "(II)V"⟩
abbrev cX4_refuse : ByteArray := prog_1_method_51_code
def yX4_refuse : MethodName := ⟨RX4, "refuse", "()I"⟩
abbrev cX4_nextMark : ByteArray := prog_1_method_52_code
def yX4_nextMark : MethodName := ⟨RX4, "nextMark", "()I"⟩
abbrev cX4_count : ByteArray := prog_1_method_53_code
def yX4_count : MethodName := ⟨RX4, "count", "(I)I"⟩
abbrev cX4_thingsInAll : ByteArray := prog_1_method_54_code
def yX4_thingsInAll : MethodName := ⟨RX4, "thingsInAll", "()I"⟩
abbrev cX4_stepsInAll : ByteArray := prog_1_method_55_code
def yX4_stepsInAll : MethodName := ⟨RX4, "stepsInAll", "()I"⟩
abbrev cX4_placeNew : ByteArray := prog_1_method_56_code
def yX4_placeNew : MethodName := ⟨RX4, "placeNew", "(LOrderlattice$Row;II)I"⟩
abbrev cX4_coarsestKey : ByteArray := prog_1_method_57_code
def yX4_coarsestKey : MethodName := ⟨RX4, "coarsestKey", "(LOrderlattice$Order;II)I"⟩
abbrev cX4_comparedByBoth : ByteArray := prog_1_method_58_code
def yX4_comparedByBoth : MethodName := ⟨RX4, "comparedByBoth", "(LOrderlattice$Order;LOrderlattice$Order;II)I"⟩
abbrev cX4_pairsApart : ByteArray := prog_1_method_59_code
def yX4_pairsApart : MethodName := ⟨RX4, "pairsApart", "(LOrderlattice$Order;LOrderlattice$Order;)I"⟩
abbrev cX4_appendGap : ByteArray := prog_1_method_60_code
def yX4_appendGap : MethodName := ⟨RX4, "appendGap", "(Ljava/lang/StringBuilder;)V"⟩
abbrev cX4_mixed : ByteArray := prog_1_method_61_code
def yX4_mixed : MethodName := ⟨RX4, "mixed", "(JI)J"⟩
abbrev cX4_mixedWithRows : ByteArray := prog_1_method_62_code
def yX4_mixedWithRows : MethodName := ⟨RX4, "mixedWithRows", "(J)J"⟩
abbrev cX4_mixedWithOrders : ByteArray := prog_1_method_63_code
def yX4_mixedWithOrders : MethodName := ⟨RX4, "mixedWithOrders", "(J)J"⟩
abbrev cX4_mixedWithPairs : ByteArray := prog_1_method_64_code
def yX4_mixedWithPairs : MethodName := ⟨RX4, "mixedWithPairs", "(J)J"⟩
abbrev cX4_mixedWithSequences : ByteArray := prog_1_method_65_code
def yX4_mixedWithSequences : MethodName := ⟨RX4, "mixedWithSequences", "(J)J"⟩
def RX5 : String := "OrderlatticeLaw$Out"
def TX5 : u_T := fun k => match k with
  | 0 => ("OrderlatticeLaw$Out", "n", "J", false)
  | _ => ("OrderlatticeLaw$Out", "s", "Ljava/lang/String;", false)
def tyX5 : Nat → FieldType := fun k => match k with
  | 0 => .long
  | _ => .object "java/lang/String"
theorem nmX5 : ∀ a, a < 2 → ∀ b, b < 2 → a ≠ b → (TX5 a).2.1 ≠ (TX5 b).2.1 := by decide +kernel
theorem tyX5_ok : ∀ k, k < 2 → parseFieldDescriptor (TX5 k).2.2.1 = some (tyX5 k) := by decide +kernel
abbrev cX5_init : ByteArray := prog_7_method_1_code
def yX5_init : MethodName := ⟨RX5, "<init>", "()V"⟩
def RX6 : String := "OrderlatticeModel"
def TX6 : u_T := fun k => match k with
  | 0 => ("OrderlatticeModel", "thrown", "I", false)
  | 1 => ("OrderlatticeModel", "values", "[[I", true)
  | 2 => ("OrderlatticeModel", "marks", "[[I", true)
  | 3 => ("OrderlatticeModel", "sizes", "[I", true)
  | 4 => ("OrderlatticeModel", "keys", "[[I", true)
  | 5 => ("OrderlatticeModel", "downs", "[[Z", true)
  | 6 => ("OrderlatticeModel", "steps", "[I", true)
  | 7 => ("OrderlatticeModel", "put", "I", false)
  | 8 => ("OrderlatticeModel", "refused", "I", false)
  | _ => ("OrderlatticeModel", "knocks", "I", false)
def tyX6 : Nat → FieldType := fun k => match k with
  | 0 => .int
  | 1 => .array (.array .int)
  | 2 => .array (.array .int)
  | 3 => .array .int
  | 4 => .array (.array .int)
  | 5 => .array (.array .boolean)
  | 6 => .array .int
  | 7 => .int
  | 8 => .int
  | _ => .int
theorem nmX6 : ∀ a, a < 10 → ∀ b, b < 10 → a ≠ b → (TX6 a).2.1 ≠ (TX6 b).2.1 := by decide +kernel
theorem tyX6_ok : ∀ k, k < 10 → parseFieldDescriptor (TX6 k).2.2.1 = some (tyX6 k) := by decide +kernel
abbrev cX6_init : ByteArray := prog_8_method_1_code
def yX6_init : MethodName := ⟨RX6, "<init>", "()V"⟩
abbrev cX6_thrown : ByteArray := prog_8_method_2_code
def yX6_thrown : MethodName := ⟨RX6, "thrown", "()I"⟩
abbrev cX6_refuse : ByteArray := prog_8_method_3_code
def yX6_refuse : MethodName := ⟨RX6, "refuse", "(ZI)Z"⟩
abbrev cX6_start : ByteArray := prog_8_method_4_code
def yX6_start : MethodName := ⟨RX6, "start", "(ZI)Z"⟩
abbrev cX6_isNo : ByteArray := prog_8_method_5_code
def yX6_isNo : MethodName := ⟨RX6, "isNo", "(II)Z"⟩
abbrev cX6_isNoRow : ByteArray := prog_8_method_6_code
def yX6_isNoRow : MethodName := ⟨RX6, "isNoRow", "(I)Z"⟩
abbrev cX6_isNoOrder : ByteArray := prog_8_method_7_code
def yX6_isNoOrder : MethodName := ⟨RX6, "isNoOrder", "(I)Z"⟩
abbrev cX6_isNoValue : ByteArray := prog_8_method_8_code
def yX6_isNoValue : MethodName := ⟨RX6, "isNoValue", "(I)Z"⟩
abbrev cX6_no : ByteArray := prog_8_method_9_code
def yX6_no : MethodName := ⟨RX6, "no", "()I"⟩
abbrev cX6_keyNow : ByteArray := prog_8_method_10_code
def yX6_keyNow : MethodName := ⟨RX6, "keyNow", "(II)I"⟩
abbrev cX6_compareNow : ByteArray := prog_8_method_11_code
def yX6_compareNow : MethodName := ⟨RX6, "compareNow", "(III)I"⟩
abbrev cX6_isFirst : ByteArray := prog_8_method_12_code
def yX6_isFirst : MethodName := ⟨RX6, "isFirst", "(II)Z"⟩
abbrev cX6_classesNow : ByteArray := prog_8_method_13_code
def yX6_classesNow : MethodName := ⟨RX6, "classesNow", "(I)I"⟩
abbrev cX6_rankNow : ByteArray := prog_8_method_14_code
def yX6_rankNow : MethodName := ⟨RX6, "rankNow", "(II)I"⟩
abbrev cX6_isRefined : ByteArray := prog_8_method_15_code
def yX6_isRefined : MethodName := ⟨RX6, "isRefined", "(II)Z"⟩
abbrev cX6_bothNow : ByteArray := prog_8_method_16_code
def yX6_bothNow : MethodName := ⟨RX6, "bothNow", "(IIII)I"⟩
abbrev cX6_apartNow : ByteArray := prog_8_method_17_code
def yX6_apartNow : MethodName := ⟨RX6, "apartNow", "(II)I"⟩
abbrev cX6_at : ByteArray := prog_8_method_18_code
def yX6_at : MethodName := ⟨RX6, "at", "(III)I"⟩
abbrev cX6_put : ByteArray := prog_8_method_19_code
def yX6_put : MethodName := ⟨RX6, "put", "(II)I"⟩
abbrev cX6_putAt : ByteArray := prog_8_method_20_code
def yX6_putAt : MethodName := ⟨RX6, "putAt", "(III)I"⟩
abbrev cX6_fill : ByteArray := prog_8_method_21_code
def yX6_fill : MethodName := ⟨RX6, "fill", "(IIII)I"⟩
abbrev cX6_drop : ByteArray := prog_8_method_22_code
def yX6_drop : MethodName := ⟨RX6, "drop", "(II)I"⟩
abbrev cX6_clear : ByteArray := prog_8_method_23_code
def yX6_clear : MethodName := ⟨RX6, "clear", "(I)I"⟩
abbrev cX6_copyRow : ByteArray := prog_8_method_24_code
def yX6_copyRow : MethodName := ⟨RX6, "copyRow", "(II)I"⟩
abbrev cX6_change : ByteArray := prog_8_method_25_code
def yX6_change : MethodName := ⟨RX6, "change", "(III)V"⟩
abbrev cX6_turnRow : ByteArray := prog_8_method_26_code
def yX6_turnRow : MethodName := ⟨RX6, "turnRow", "(I)I"⟩
abbrev cX6_wheel : ByteArray := prog_8_method_27_code
def yX6_wheel : MethodName := ⟨RX6, "wheel", "(II)I"⟩
abbrev cX6_swap : ByteArray := prog_8_method_28_code
def yX6_swap : MethodName := ⟨RX6, "swap", "(III)I"⟩
abbrev cX6_sorted : ByteArray := prog_8_method_29_code
def yX6_sorted : MethodName := ⟨RX6, "sorted", "(IIII)I"⟩
abbrev cX6_sort : ByteArray := prog_8_method_30_code
def yX6_sort : MethodName := ⟨RX6, "sort", "(III)I"⟩
abbrev cX6_sortPart : ByteArray := prog_8_method_31_code
def yX6_sortPart : MethodName := ⟨RX6, "sortPart", "(IIII)I"⟩
abbrev cX6_isInSequence : ByteArray := prog_8_method_32_code
def yX6_isInSequence : MethodName := ⟨RX6, "isInSequence", "(II)Z"⟩
abbrev cX6_isSorted : ByteArray := prog_8_method_33_code
def yX6_isSorted : MethodName := ⟨RX6, "isSorted", "(II)Z"⟩
abbrev cX6_size : ByteArray := prog_8_method_34_code
def yX6_size : MethodName := ⟨RX6, "size", "(I)I"⟩
abbrev cX6_valueAt : ByteArray := prog_8_method_35_code
def yX6_valueAt : MethodName := ⟨RX6, "valueAt", "(II)I"⟩
abbrev cX6_markAt : ByteArray := prog_8_method_36_code
def yX6_markAt : MethodName := ⟨RX6, "markAt", "(II)I"⟩
abbrev cX6_text : ByteArray := prog_8_method_37_code
def yX6_text : MethodName := ⟨RX6, "text", "(I)Ljava/lang/String;"⟩
abbrev cX6_extreme : ByteArray := prog_8_method_38_code
def yX6_extreme : MethodName := ⟨RX6, "extreme", "(IIZ)I"⟩
abbrev cX6_search : ByteArray := prog_8_method_39_code
def yX6_search : MethodName := ⟨RX6, "search", "(III)I"⟩
abbrev cX6_near : ByteArray := prog_8_method_40_code
def yX6_near : MethodName := ⟨RX6, "near", "(IIII)I"⟩
abbrev cX6_isFirstOf : ByteArray := prog_8_method_41_code
def yX6_isFirstOf : MethodName := ⟨RX6, "isFirstOf", "(III)Z"⟩
abbrev cX6_kindsNow : ByteArray := prog_8_method_42_code
def yX6_kindsNow : MethodName := ⟨RX6, "kindsNow", "(II)I"⟩
abbrev cX6_kinds : ByteArray := prog_8_method_43_code
def yX6_kinds : MethodName := ⟨RX6, "kinds", "(II)I"⟩
abbrev cX6_ahead : ByteArray := prog_8_method_44_code
def yX6_ahead : MethodName := ⟨RX6, "ahead", "(III)I"⟩
abbrev cX6_groups : ByteArray := prog_8_method_45_code
def yX6_groups : MethodName := ⟨RX6, "groups", "(II)Ljava/lang/String;"⟩
abbrev cX6_ranks : ByteArray := prog_8_method_46_code
def yX6_ranks : MethodName := ⟨RX6, "ranks", "(IIZ)Ljava/lang/String;"⟩
abbrev cX6_add : ByteArray := prog_8_method_47_code
def yX6_add : MethodName := ⟨RX6, "add", "(IIZ)V"⟩
abbrev cX6_step : ByteArray := prog_8_method_48_code
def yX6_step : MethodName := ⟨RX6, "step", "(IIZ)I"⟩
abbrev cX6_unstep : ByteArray := prog_8_method_49_code
def yX6_unstep : MethodName := ⟨RX6, "unstep", "(I)I"⟩
abbrev cX6_wipe : ByteArray := prog_8_method_50_code
def yX6_wipe : MethodName := ⟨RX6, "wipe", "(I)I"⟩
abbrev cX6_copyOrder : ByteArray := prog_8_method_51_code
def yX6_copyOrder : MethodName := ⟨RX6, "copyOrder", "(II)I"⟩
abbrev cX6_turn : ByteArray := prog_8_method_52_code
def yX6_turn : MethodName := ⟨RX6, "turn", "(I)I"⟩
abbrev cX6_product : ByteArray := prog_8_method_53_code
def yX6_product : MethodName := ⟨RX6, "product", "(III)I"⟩
abbrev cX6_tellApart : ByteArray := prog_8_method_54_code
def yX6_tellApart : MethodName := ⟨RX6, "tellApart", "(III)I"⟩
abbrev cX6_orderText : ByteArray := prog_8_method_55_code
def yX6_orderText : MethodName := ⟨RX6, "orderText", "(I)Ljava/lang/String;"⟩
abbrev cX6_compare : ByteArray := prog_8_method_56_code
def yX6_compare : MethodName := ⟨RX6, "compare", "(III)I"⟩
abbrev cX6_both : ByteArray := prog_8_method_57_code
def yX6_both : MethodName := ⟨RX6, "both", "(IIII)I"⟩
abbrev cX6_refines : ByteArray := prog_8_method_58_code
def yX6_refines : MethodName := ⟨RX6, "refines", "(II)Z"⟩
abbrev cX6_areSame : ByteArray := prog_8_method_59_code
def yX6_areSame : MethodName := ⟨RX6, "areSame", "(II)Z"⟩
abbrev cX6_apart : ByteArray := prog_8_method_60_code
def yX6_apart : MethodName := ⟨RX6, "apart", "(II)I"⟩
abbrev cX6_classes : ByteArray := prog_8_method_61_code
def yX6_classes : MethodName := ⟨RX6, "classes", "(I)I"⟩
abbrev cX6_rank : ByteArray := prog_8_method_62_code
def yX6_rank : MethodName := ⟨RX6, "rank", "(II)I"⟩
abbrev cX6_keyOf : ByteArray := prog_8_method_63_code
def yX6_keyOf : MethodName := ⟨RX6, "keyOf", "(II)I"⟩
abbrev cX6_knock : ByteArray := prog_8_method_64_code
def yX6_knock : MethodName := ⟨RX6, "knock", "()I"⟩
abbrev cX6_houseNow : ByteArray := prog_8_method_65_code
def yX6_houseNow : MethodName := ⟨RX6, "houseNow", "(I)I"⟩
abbrev cX6_house : ByteArray := prog_8_method_66_code
def yX6_house : MethodName := ⟨RX6, "house", "(I)I"⟩
abbrev cX6_isSound : ByteArray := prog_8_method_67_code
def yX6_isSound : MethodName := ⟨RX6, "isSound", "()Z"⟩
abbrev cX6_digest : ByteArray := prog_8_method_68_code
def yX6_digest : MethodName := ⟨RX6, "digest", "()J"⟩
def RJ5 : String := "java/lang/AbstractStringBuilder"
abbrev cJ5_init_d00df : ByteArray := prog_9_method_2_code
def yJ5_init_d00df : MethodName := ⟨RJ5, "<init>", "(I)V"⟩
abbrev cJ5_length_8abf5 : ByteArray := prog_9_method_6_code
def yJ5_length_8abf5 : MethodName := ⟨RJ5, "length", "()I"⟩
abbrev cJ5_ensureCapacityInternal_d00df : ByteArray := prog_9_method_9_code
def yJ5_ensureCapacityInternal_d00df : MethodName := ⟨RJ5, "ensureCapacityInternal", "(I)V"⟩
abbrev cJ5_newCapacity_0f7a4 : ByteArray := prog_9_method_10_code
def yJ5_newCapacity_0f7a4 : MethodName := ⟨RJ5, "newCapacity", "(I)I"⟩
abbrev cJ5_inflate_da8c8 : ByteArray := prog_9_method_11_code
def yJ5_inflate_da8c8 : MethodName := ⟨RJ5, "inflate", "()V"⟩
abbrev cJ5_append_cf1ce : ByteArray := prog_9_method_22_code
def yJ5_append_cf1ce : MethodName := ⟨RJ5, "append", "(Ljava/lang/String;)Ljava/lang/AbstractStringBuilder;"⟩
abbrev cJ5_appendNull_278bc : ByteArray := prog_9_method_26_code
def yJ5_appendNull_278bc : MethodName := ⟨RJ5, "appendNull", "()Ljava/lang/AbstractStringBuilder;"⟩
abbrev cJ5_append_3fe6f : ByteArray := prog_9_method_31_code
def yJ5_append_3fe6f : MethodName := ⟨RJ5, "append", "(C)Ljava/lang/AbstractStringBuilder;"⟩
abbrev cJ5_append_c97b9 : ByteArray := prog_9_method_32_code
def yJ5_append_c97b9 : MethodName := ⟨RJ5, "append", "(I)Ljava/lang/AbstractStringBuilder;"⟩
abbrev cJ5_getValue_6d5f1 : ByteArray := prog_9_method_64_code
def yJ5_getValue_6d5f1 : MethodName := ⟨RJ5, "getValue", "()[B"⟩
abbrev cJ5_isLatin1_aae02 : ByteArray := prog_9_method_68_code
def yJ5_isLatin1_aae02 : MethodName := ⟨RJ5, "isLatin1", "()Z"⟩
abbrev cJ5_inflateIfNeededFor_a7421 : ByteArray := prog_9_method_71_code
def yJ5_inflateIfNeededFor_a7421 : MethodName := ⟨RJ5, "inflateIfNeededFor", "(Ljava/lang/String;)V"⟩
abbrev cJ5_putStringAt_47b60 : ByteArray := prog_9_method_73_code
def yJ5_putStringAt_47b60 : MethodName := ⟨RJ5, "putStringAt", "(ILjava/lang/String;)V"⟩
def RJ6 : String := "java/lang/Integer"
abbrev cJ6_getChars_ba4f3 : ByteArray := prog_14_method_12_code
def yJ6_getChars_ba4f3 : MethodName := ⟨RJ6, "getChars", "(II[B)I"⟩
abbrev cJ6_stringSize_0f7a4 : ByteArray := prog_14_method_13_code
def yJ6_stringSize_0f7a4 : MethodName := ⟨RJ6, "stringSize", "(I)I"⟩
abbrev cJ6_bitCount_0f7a4 : ByteArray := prog_14_method_49_code
def yJ6_bitCount_0f7a4 : MethodName := ⟨RJ6, "bitCount", "(I)I"⟩
def RJ9 : String := "java/lang/Math"
abbrev cJ9_floorMod_7cf53 : ByteArray := prog_15_method_50_code
def yJ9_floorMod_7cf53 : MethodName := ⟨RJ9, "floorMod", "(II)I"⟩
def RJ0 : String := "java/lang/String"
def TJ0 : u_T := fun k => match k with
  | 0 => ("java/lang/String", "value", "[B", true)
  | 1 => ("java/lang/String", "coder", "B", true)
  | 2 => ("java/lang/String", "hash", "I", false)
  | _ => ("java/lang/String", "hashIsZero", "Z", false)
def tyJ0 : Nat → FieldType := fun k => match k with
  | 0 => .array .byte
  | 1 => .byte
  | 2 => .int
  | _ => .boolean
theorem nmJ0 : ∀ a, a < 4 → ∀ b, b < 4 → a ≠ b → (TJ0 a).2.1 ≠ (TJ0 b).2.1 := by decide +kernel
theorem tyJ0_ok : ∀ k, k < 4 → parseFieldDescriptor (TJ0 k).2.2.1 = some (tyJ0 k) := by decide +kernel
abbrev cJ0_init_81219 : ByteArray := prog_17_method_53_code
def yJ0_init_81219 : MethodName := ⟨RJ0, "<init>", "(Ljava/lang/StringBuilder;)V"⟩
abbrev cJ0_length_8abf5 : ByteArray := prog_17_method_54_code
def yJ0_length_8abf5 : MethodName := ⟨RJ0, "length", "()I"⟩
abbrev cJ0_isEmpty_aae02 : ByteArray := prog_17_method_55_code
def yJ0_isEmpty_aae02 : MethodName := ⟨RJ0, "isEmpty", "()Z"⟩
abbrev cJ0_getBytes_840e7 : ByteArray := prog_17_method_147_code
def yJ0_getBytes_840e7 : MethodName := ⟨RJ0, "getBytes", "([BIB)V"⟩
abbrev cJ0_init_db425 : ByteArray := prog_17_method_150_code
def yJ0_init_db425 : MethodName := ⟨RJ0, "<init>", "(Ljava/lang/AbstractStringBuilder;Ljava/lang/Void;)V"⟩
abbrev cJ0_coder_7d493 : ByteArray := prog_17_method_152_code
def yJ0_coder_7d493 : MethodName := ⟨RJ0, "coder", "()B"⟩
abbrev cJ0_checkIndex_df160 : ByteArray := prog_17_method_155_code
def yJ0_checkIndex_df160 : MethodName := ⟨RJ0, "checkIndex", "(II)V"⟩
abbrev cJ0_checkBoundsOffCount_cabcc : ByteArray := prog_17_method_157_code
def yJ0_checkBoundsOffCount_cabcc : MethodName := ⟨RJ0, "checkBoundsOffCount", "(III)I"⟩
abbrev cJ0_checkBoundsBeginEnd_23922 : ByteArray := prog_17_method_158_code
def yJ0_checkBoundsBeginEnd_23922 : MethodName := ⟨RJ0, "checkBoundsBeginEnd", "(III)V"⟩
def RJ4 : String := "java/lang/StringBuilder"
def TJ4 : u_T := fun k => match k with
  | 0 => ("java/lang/AbstractStringBuilder", "value", "[B", false)
  | 1 => ("java/lang/AbstractStringBuilder", "coder", "B", false)
  | 2 => ("java/lang/AbstractStringBuilder", "maybeLatin1", "Z", false)
  | _ => ("java/lang/AbstractStringBuilder", "count", "I", false)
def tyJ4 : Nat → FieldType := fun k => match k with
  | 0 => .array .byte
  | 1 => .byte
  | 2 => .boolean
  | _ => .int
theorem nmJ4 : ∀ a, a < 4 → ∀ b, b < 4 → a ≠ b → (TJ4 a).2.1 ≠ (TJ4 b).2.1 := by decide +kernel
theorem tyJ4_ok : ∀ k, k < 4 → parseFieldDescriptor (TJ4 k).2.2.1 = some (tyJ4 k) := by decide +kernel
abbrev cJ4_init_da8c8 : ByteArray := prog_18_method_1_code
def yJ4_init_da8c8 : MethodName := ⟨RJ4, "<init>", "()V"⟩
abbrev cJ4_append_15ec4 : ByteArray := prog_18_method_7_code
def yJ4_append_15ec4 : MethodName := ⟨RJ4, "append", "(Ljava/lang/String;)Ljava/lang/StringBuilder;"⟩
abbrev cJ4_append_cf468 : ByteArray := prog_18_method_14_code
def yJ4_append_cf468 : MethodName := ⟨RJ4, "append", "(C)Ljava/lang/StringBuilder;"⟩
abbrev cJ4_append_bf812 : ByteArray := prog_18_method_15_code
def yJ4_append_bf812 : MethodName := ⟨RJ4, "append", "(I)Ljava/lang/StringBuilder;"⟩
abbrev cJ4_toString_0e30d : ByteArray := prog_18_method_42_code
def yJ4_toString_0e30d : MethodName := ⟨RJ4, "toString", "()Ljava/lang/String;"⟩
abbrev cJ4_length_8abf5 : ByteArray := prog_18_method_93_code
def yJ4_length_8abf5 : MethodName := ⟨RJ4, "length", "()I"⟩
def RJ1 : String := "java/lang/StringLatin1"
abbrev cJ1_canEncode_fc78d : ByteArray := prog_19_method_3_code
def yJ1_canEncode_fc78d : MethodName := ⟨RJ1, "canEncode", "(C)Z"⟩
abbrev cJ1_inflate_0e8fd : ByteArray := prog_19_method_50_code
def yJ1_inflate_0e8fd : MethodName := ⟨RJ1, "inflate", "([BI[BII)V"⟩
def RJ2 : String := "java/lang/StringUTF16"
abbrev cJ2_newBytesFor_77867 : ByteArray := prog_20_method_2_code
def yJ2_newBytesFor_77867 : MethodName := ⟨RJ2, "newBytesFor", "(I)[B"⟩
abbrev cJ2_newBytesLength_0f7a4 : ByteArray := prog_20_method_3_code
def yJ2_newBytesLength_0f7a4 : MethodName := ⟨RJ2, "newBytesLength", "(I)I"⟩
abbrev cJ2_putChar_b72d1 : ByteArray := prog_20_method_4_code
def yJ2_putChar_b72d1 : MethodName := ⟨RJ2, "putChar", "([BII)V"⟩
abbrev cJ2_getChar_3b067 : ByteArray := prog_20_method_5_code
def yJ2_getChar_3b067 : MethodName := ⟨RJ2, "getChar", "([BI)C"⟩
abbrev cJ2_length_9d52b : ByteArray := prog_20_method_6_code
def yJ2_length_9d52b : MethodName := ⟨RJ2, "length", "([B)I"⟩
abbrev cJ2_coderFromArrayLen_85cad : ByteArray := prog_20_method_15_code
def yJ2_coderFromArrayLen_85cad : MethodName := ⟨RJ2, "coderFromArrayLen", "([BI)B"⟩
abbrev cJ2_compress_39247 : ByteArray := prog_20_method_17_code
def yJ2_compress_39247 : MethodName := ⟨RJ2, "compress", "([BII)[B"⟩
abbrev cJ2_compress_5af95 : ByteArray := prog_20_method_22_code
def yJ2_compress_5af95 : MethodName := ⟨RJ2, "compress", "([BI[BII)I"⟩
abbrev cJ2_putCharSB_b72d1 : ByteArray := prog_20_method_71_code
def yJ2_putCharSB_b72d1 : MethodName := ⟨RJ2, "putCharSB", "([BII)V"⟩
abbrev cJ2_getChars_46870 : ByteArray := prog_20_method_77_code
def yJ2_getChars_46870 : MethodName := ⟨RJ2, "getChars", "(III[B)I"⟩
abbrev cJ2_putCharsAt_cd4e5 : ByteArray := prog_20_method_81_code
def yJ2_putCharsAt_cd4e5 : MethodName := ⟨RJ2, "putCharsAt", "([BICCCC)I"⟩
abbrev cJ2_inflate_0e8fd : ByteArray := prog_20_method_86_code
def yJ2_inflate_0e8fd : MethodName := ⟨RJ2, "inflate", "([BI[BII)V"⟩
abbrev cJ2_getChars_ba4f3 : ByteArray := prog_20_method_89_code
def yJ2_getChars_ba4f3 : MethodName := ⟨RJ2, "getChars", "(II[B)I"⟩
abbrev cJ2_checkIndex_2214a : ByteArray := prog_20_method_91_code
def yJ2_checkIndex_2214a : MethodName := ⟨RJ2, "checkIndex", "(I[B)V"⟩
abbrev cJ2_checkBoundsBeginEnd_d044e : ByteArray := prog_20_method_93_code
def yJ2_checkBoundsBeginEnd_d044e : MethodName := ⟨RJ2, "checkBoundsBeginEnd", "(II[B)V"⟩
abbrev cJ2_checkBoundsOffCount_d044e : ByteArray := prog_20_method_94_code
def yJ2_checkBoundsOffCount_d044e : MethodName := ⟨RJ2, "checkBoundsOffCount", "(II[B)V"⟩
def RJ7 : String := "java/util/Arrays"
abbrev cJ7_copyOf_9075b : ByteArray := prog_23_method_121_code
def yJ7_copyOf_9075b : MethodName := ⟨RJ7, "copyOf", "([BI)[B"⟩
abbrev cJ7_checkLength_df160 : ByteArray := prog_23_method_131_code
def yJ7_checkLength_df160 : MethodName := ⟨RJ7, "checkLength", "(II)V"⟩
abbrev cJ7_copyOfRange_39247 : ByteArray := prog_23_method_132_code
def yJ7_copyOfRange_39247 : MethodName := ⟨RJ7, "copyOfRange", "([BII)[B"⟩
abbrev cJ7_copyOfRangeByte_39247 : ByteArray := prog_23_method_133_code
def yJ7_copyOfRangeByte_39247 : MethodName := ⟨RJ7, "copyOfRangeByte", "([BII)[B"⟩
def RJ8 : String := "jdk/internal/util/ArraysSupport"
abbrev cJ8_newLength_cabcc : ByteArray := prog_24_method_27_code
def yJ8_newLength_cabcc : MethodName := ⟨RJ8, "newLength", "(III)I"⟩
abbrev cJ8_hugeLength_7cf53 : ByteArray := prog_24_method_28_code
def yJ8_hugeLength_7cf53 : MethodName := ⟨RJ8, "hugeLength", "(II)I"⟩
def RJ3 : String := "jdk/internal/util/Preconditions"
abbrev cJ3_checkIndex_8e157 : ByteArray := prog_25_method_11_code
def yJ3_checkIndex_8e157 : MethodName := ⟨RJ3, "checkIndex", "(IILjava/util/function/BiFunction;)I"⟩
abbrev cJ3_checkFromToIndex_8c36e : ByteArray := prog_25_method_12_code
def yJ3_checkFromToIndex_8c36e : MethodName := ⟨RJ3, "checkFromToIndex", "(IIILjava/util/function/BiFunction;)I"⟩
abbrev cJ3_checkFromIndexSize_8c36e : ByteArray := prog_25_method_13_code
def yJ3_checkFromIndexSize_8c36e : MethodName := ⟨RJ3, "checkFromIndexSize", "(IIILjava/util/function/BiFunction;)I"⟩
def RL : String := "OrderlatticeLaw"
abbrev cL_put : ByteArray := method_2_code
def yL_put : MethodName := ⟨RL, "put", "(LOrderlattice;IILOrderlatticeLaw$Out;)I"⟩
abbrev cL_putAt : ByteArray := method_3_code
def yL_putAt : MethodName := ⟨RL, "putAt", "(LOrderlattice;IIILOrderlatticeLaw$Out;)I"⟩
abbrev cL_fill : ByteArray := method_4_code
def yL_fill : MethodName := ⟨RL, "fill", "(LOrderlattice;IIIILOrderlatticeLaw$Out;)I"⟩
abbrev cL_drop : ByteArray := method_5_code
def yL_drop : MethodName := ⟨RL, "drop", "(LOrderlattice;IILOrderlatticeLaw$Out;)I"⟩
abbrev cL_clear : ByteArray := method_6_code
def yL_clear : MethodName := ⟨RL, "clear", "(LOrderlattice;ILOrderlatticeLaw$Out;)I"⟩
abbrev cL_copyRow : ByteArray := method_7_code
def yL_copyRow : MethodName := ⟨RL, "copyRow", "(LOrderlattice;IILOrderlatticeLaw$Out;)I"⟩
abbrev cL_turnRow : ByteArray := method_8_code
def yL_turnRow : MethodName := ⟨RL, "turnRow", "(LOrderlattice;ILOrderlatticeLaw$Out;)I"⟩
abbrev cL_wheel : ByteArray := method_9_code
def yL_wheel : MethodName := ⟨RL, "wheel", "(LOrderlattice;IILOrderlatticeLaw$Out;)I"⟩
abbrev cL_swap : ByteArray := method_10_code
def yL_swap : MethodName := ⟨RL, "swap", "(LOrderlattice;IIILOrderlatticeLaw$Out;)I"⟩
abbrev cL_sort : ByteArray := method_11_code
def yL_sort : MethodName := ⟨RL, "sort", "(LOrderlattice;IIILOrderlatticeLaw$Out;)I"⟩
abbrev cL_sortPart : ByteArray := method_12_code
def yL_sortPart : MethodName := ⟨RL, "sortPart", "(LOrderlattice;IIIILOrderlatticeLaw$Out;)I"⟩
abbrev cL_isSorted : ByteArray := method_13_code
def yL_isSorted : MethodName := ⟨RL, "isSorted", "(LOrderlattice;IILOrderlatticeLaw$Out;)I"⟩
abbrev cL_size : ByteArray := method_14_code
def yL_size : MethodName := ⟨RL, "size", "(LOrderlattice;ILOrderlatticeLaw$Out;)I"⟩
abbrev cL_valueAt : ByteArray := method_15_code
def yL_valueAt : MethodName := ⟨RL, "valueAt", "(LOrderlattice;IILOrderlatticeLaw$Out;)I"⟩
abbrev cL_markAt : ByteArray := method_16_code
def yL_markAt : MethodName := ⟨RL, "markAt", "(LOrderlattice;IILOrderlatticeLaw$Out;)I"⟩
abbrev cL_text : ByteArray := method_17_code
def yL_text : MethodName := ⟨RL, "text", "(LOrderlattice;ILOrderlatticeLaw$Out;)I"⟩
abbrev cL_extreme : ByteArray := method_18_code
def yL_extreme : MethodName := ⟨RL, "extreme", "(LOrderlattice;IIZLOrderlatticeLaw$Out;)I"⟩
abbrev cL_search : ByteArray := method_19_code
def yL_search : MethodName := ⟨RL, "search", "(LOrderlattice;IIILOrderlatticeLaw$Out;)I"⟩
abbrev cL_near : ByteArray := method_20_code
def yL_near : MethodName := ⟨RL, "near", "(LOrderlattice;IIIILOrderlatticeLaw$Out;)I"⟩
abbrev cL_kinds : ByteArray := method_21_code
def yL_kinds : MethodName := ⟨RL, "kinds", "(LOrderlattice;IILOrderlatticeLaw$Out;)I"⟩
abbrev cL_ahead : ByteArray := method_22_code
def yL_ahead : MethodName := ⟨RL, "ahead", "(LOrderlattice;IIILOrderlatticeLaw$Out;)I"⟩
abbrev cL_groups : ByteArray := method_23_code
def yL_groups : MethodName := ⟨RL, "groups", "(LOrderlattice;IILOrderlatticeLaw$Out;)I"⟩
abbrev cL_ranks : ByteArray := method_24_code
def yL_ranks : MethodName := ⟨RL, "ranks", "(LOrderlattice;IIZLOrderlatticeLaw$Out;)I"⟩
abbrev cL_step : ByteArray := method_25_code
def yL_step : MethodName := ⟨RL, "step", "(LOrderlattice;IIZLOrderlatticeLaw$Out;)I"⟩
abbrev cL_unstep : ByteArray := method_26_code
def yL_unstep : MethodName := ⟨RL, "unstep", "(LOrderlattice;ILOrderlatticeLaw$Out;)I"⟩
abbrev cL_wipe : ByteArray := method_27_code
def yL_wipe : MethodName := ⟨RL, "wipe", "(LOrderlattice;ILOrderlatticeLaw$Out;)I"⟩
abbrev cL_copyOrder : ByteArray := method_28_code
def yL_copyOrder : MethodName := ⟨RL, "copyOrder", "(LOrderlattice;IILOrderlatticeLaw$Out;)I"⟩
abbrev cL_turn : ByteArray := method_29_code
def yL_turn : MethodName := ⟨RL, "turn", "(LOrderlattice;ILOrderlatticeLaw$Out;)I"⟩
abbrev cL_product : ByteArray := method_30_code
def yL_product : MethodName := ⟨RL, "product", "(LOrderlattice;IIILOrderlatticeLaw$Out;)I"⟩
abbrev cL_tellApart : ByteArray := method_31_code
def yL_tellApart : MethodName := ⟨RL, "tellApart", "(LOrderlattice;IIILOrderlatticeLaw$Out;)I"⟩
abbrev cL_orderText : ByteArray := method_32_code
def yL_orderText : MethodName := ⟨RL, "orderText", "(LOrderlattice;ILOrderlatticeLaw$Out;)I"⟩
abbrev cL_compare : ByteArray := method_33_code
def yL_compare : MethodName := ⟨RL, "compare", "(LOrderlattice;IIILOrderlatticeLaw$Out;)I"⟩
abbrev cL_both : ByteArray := method_34_code
def yL_both : MethodName := ⟨RL, "both", "(LOrderlattice;IIIILOrderlatticeLaw$Out;)I"⟩
abbrev cL_refines : ByteArray := method_35_code
def yL_refines : MethodName := ⟨RL, "refines", "(LOrderlattice;IILOrderlatticeLaw$Out;)I"⟩
abbrev cL_areSame : ByteArray := method_36_code
def yL_areSame : MethodName := ⟨RL, "areSame", "(LOrderlattice;IILOrderlatticeLaw$Out;)I"⟩
abbrev cL_apart : ByteArray := method_37_code
def yL_apart : MethodName := ⟨RL, "apart", "(LOrderlattice;IILOrderlatticeLaw$Out;)I"⟩
abbrev cL_classes : ByteArray := method_38_code
def yL_classes : MethodName := ⟨RL, "classes", "(LOrderlattice;ILOrderlatticeLaw$Out;)I"⟩
abbrev cL_rank : ByteArray := method_39_code
def yL_rank : MethodName := ⟨RL, "rank", "(LOrderlattice;IILOrderlatticeLaw$Out;)I"⟩
abbrev cL_keyOf : ByteArray := method_40_code
def yL_keyOf : MethodName := ⟨RL, "keyOf", "(LOrderlattice;IILOrderlatticeLaw$Out;)I"⟩
abbrev cL_house : ByteArray := method_41_code
def yL_house : MethodName := ⟨RL, "house", "(LOrderlattice;ILOrderlatticeLaw$Out;)I"⟩
abbrev cL_law : ByteArray := code
/-! every word by its number -/
noncomputable def tgc0 : List (List Cond) := [[Cond.methodLink RX0 3 objectInit], [Cond.instanceMethod objectInit], [Cond.code objectInit ⟨#[0xb1]⟩ 1 none], [Cond.classLink RX0 9 RX3], [Cond.instantiable RX3 1], [Cond.initialized RX3], [Cond.fieldLink RX0 12 "Orderlattice$Auditor" "sorter" "LOrderlattice$Sorter;"], [Cond.classLink RX0 18 RX2], [Cond.instantiable RX2 3], [Cond.initialized RX2], [Cond.fieldLink RX0 21 "Orderlattice$Auditor" "left" "LOrderlattice$Row;"], [Cond.fieldLink RX0 25 "Orderlattice$Auditor" "right" "LOrderlattice$Row;"]]
noncomputable def tgc1 : List (List Cond) := [[Cond.classLink RX0 28 RX1], [Cond.instantiable RX1 6], [Cond.initialized RX1], [Cond.fieldLink RX0 31 "Orderlattice$Auditor" "made" "LOrderlattice$Order;"], [Cond.instanceMethod yX3_init], [Cond.code yX3_init cX3_init 1 none], [Cond.methodLink RX3 1 objectInit], [Cond.classLink RX3 7 RX2], [Cond.fieldLink RX3 10 "Orderlattice$Sorter" "gathered" "LOrderlattice$Row;"], [Cond.instanceMethod yX2_init], [Cond.code yX2_init cX2_init 1 none], [Cond.methodLink RX2 3 objectInit]]
noncomputable def tgc2 : List (List Cond) := [[Cond.arrayClass .int], [Cond.fieldLink RX2 11 "Orderlattice$Row" "values" "[I"], [Cond.fieldLink RX2 15 "Orderlattice$Row" "marks" "[I"], [Cond.fieldLink RX2 18 "Orderlattice$Row" "many" "I"], [Cond.instanceMethod yX1_init], [Cond.code yX1_init cX1_init 1 none], [Cond.methodLink RX1 3 objectInit], [Cond.fieldLink RX1 11 "Orderlattice$Order" "keys" "[I"], [Cond.arrayClass .boolean], [Cond.fieldLink RX1 15 "Orderlattice$Order" "downs" "[Z"], [Cond.arrayClass .long], [Cond.fieldLink RX1 19 "Orderlattice$Order" "codes" "[J"]]
noncomputable def tgc3 : List (List Cond) := [[Cond.fieldLink RX1 23 "Orderlattice$Order" "ranks" "[I"], [Cond.fieldLink RX1 26 "Orderlattice$Order" "many" "I"], [Cond.fieldLink RX1 30 "Orderlattice$Order" "classes" "I"], [Cond.constantLong RX1 86 (16)], [Cond.methodLink RX1 83 yX1_numberBy], [Cond.static yX1_numberBy], [Cond.code yX1_numberBy cX1_numberBy 2 (some .int)], [Cond.methodLink RX1 33 yJ6_bitCount_0f7a4], [Cond.static yJ6_bitCount_0f7a4], [Cond.initialized RJ6], [Cond.code yJ6_bitCount_0f7a4 cJ6_bitCount_0f7a4 1 (some .int)], [Cond.constant RJ6 265 (1431655765)]]
noncomputable def tgc4 : List (List Cond) := [[Cond.constant RJ6 266 (858993459)], [Cond.constant RJ6 267 (252645135)], [Cond.methodLink RX1 88 yX1_rankAll], [Cond.instanceMethod yX1_rankAll], [Cond.selects RX1 yX1_rankAll yX1_rankAll], [Cond.code yX1_rankAll cX1_rankAll 2 none], [Cond.methodLink RX1 91 yX1_isFirstOfClass], [Cond.instanceMethod yX1_isFirstOfClass], [Cond.selects RX1 yX1_isFirstOfClass yX1_isFirstOfClass], [Cond.code yX1_isFirstOfClass cX1_isFirstOfClass 3 (some .boolean)], [Cond.methodLink RX1 94 yX1_pushBackBehind], [Cond.instanceMethod yX1_pushBackBehind]]
noncomputable def tgc5 : List (List Cond) := [[Cond.selects RX1 yX1_pushBackBehind yX1_pushBackBehind], [Cond.code yX1_pushBackBehind cX1_pushBackBehind 4 none], [Cond.methodLink RX1 50 yX1_length], [Cond.instanceMethod yX1_length], [Cond.selects RX1 yX1_length yX1_length], [Cond.code yX1_length cX1_length 1 (some .int)], [Cond.methodLink RX1 54 yX1_addSteps], [Cond.instanceMethod yX1_addSteps], [Cond.selects RX1 yX1_addSteps yX1_addSteps], [Cond.code yX1_addSteps cX1_addSteps 4 none], [Cond.methodLink RX1 69 yX1_keyOn], [Cond.instanceMethod yX1_keyOn]]
noncomputable def tgc6 : List (List Cond) := [[Cond.selects RX1 yX1_keyOn yX1_keyOn], [Cond.code yX1_keyOn cX1_keyOn 2 (some .int)], [Cond.methodLink RX1 39 yX1_isDownOn], [Cond.instanceMethod yX1_isDownOn], [Cond.selects RX1 yX1_isDownOn yX1_isDownOn], [Cond.code yX1_isDownOn cX1_isDownOn 2 (some .boolean)], [Cond.methodLink RX1 43 yX1_addStep], [Cond.instanceMethod yX1_addStep], [Cond.selects RX1 yX1_addStep yX1_addStep], [Cond.code yX1_addStep cX1_addStep 3 none], [Cond.methodLink RX1 47 yX1_settle], [Cond.instanceMethod yX1_settle]]
noncomputable def tgc7 : List (List Cond) := [[Cond.selects RX1 yX1_settle yX1_settle], [Cond.code yX1_settle cX1_settle 6 none], [Cond.methodLink RX3 31 yX2_valueOn], [Cond.instanceMethod yX2_valueOn], [Cond.selects RX2 yX2_valueOn yX2_valueOn], [Cond.code yX2_valueOn cX2_valueOn 2 (some .int)], [Cond.methodLink RX3 35 yX1_compared], [Cond.instanceMethod yX1_compared], [Cond.selects RX1 yX1_compared yX1_compared], [Cond.code yX1_compared cX1_compared 7 (some .int)], [Cond.methodLink RX3 41 yX2_exchange], [Cond.instanceMethod yX2_exchange]]
noncomputable def tgc8 : List (List Cond) := [[Cond.selects RX2 yX2_exchange yX2_exchange], [Cond.code yX2_exchange cX2_exchange 5 none], [Cond.methodLink RX2 22 yX2_valueOn], [Cond.methodLink RX2 26 yX2_markOn], [Cond.instanceMethod yX2_markOn], [Cond.selects RX2 yX2_markOn yX2_markOn], [Cond.code yX2_markOn cX2_markOn 2 (some .int)], [Cond.methodLink RX2 29 yX2_replace], [Cond.instanceMethod yX2_replace], [Cond.selects RX2 yX2_replace yX2_replace], [Cond.code yX2_replace cX2_replace 4 none], [Cond.methodLink RX0 75 yX2_becomeAllValues]]
noncomputable def tgc9 : List (List Cond) := [[Cond.instanceMethod yX2_becomeAllValues], [Cond.selects RX2 yX2_becomeAllValues yX2_becomeAllValues], [Cond.code yX2_becomeAllValues cX2_becomeAllValues 2 none], [Cond.methodLink RX2 37 yX2_append], [Cond.instanceMethod yX2_append], [Cond.selects RX2 yX2_append yX2_append], [Cond.code yX2_append cX2_append 3 none], [Cond.methodLink RX0 78 yX2_length], [Cond.instanceMethod yX2_length], [Cond.selects RX2 yX2_length yX2_length], [Cond.code yX2_length cX2_length 1 (some .int)], [Cond.methodLink RX0 81 yX3_insertEach]]
noncomputable def tgc10 : List (List Cond) := [[Cond.instanceMethod yX3_insertEach], [Cond.selects RX3 yX3_insertEach yX3_insertEach], [Cond.code yX3_insertEach cX3_insertEach 7 none], [Cond.methodLink RX0 85 yX2_isInSequenceBy], [Cond.instanceMethod yX2_isInSequenceBy], [Cond.selects RX2 yX2_isInSequenceBy yX2_isInSequenceBy], [Cond.code yX2_isInSequenceBy cX2_isInSequenceBy 3 (some .boolean)], [Cond.methodLink RX2 44 yX1_compared], [Cond.methodLink RX0 88 yX0_areAlikeAlike], [Cond.static yX0_areAlikeAlike], [Cond.initialized RX0], [Cond.code yX0_areAlikeAlike cX0_areAlikeAlike 4 (some .boolean)]]
noncomputable def tgc11 : List (List Cond) := [[Cond.methodLink RX0 63 yX1_compared], [Cond.methodLink RX0 35 yX1_isFinerThan], [Cond.instanceMethod yX1_isFinerThan], [Cond.selects RX1 yX1_isFinerThan yX1_isFinerThan], [Cond.code yX1_isFinerThan cX1_isFinerThan 4 (some .boolean)], [Cond.methodLink RX1 58 yX1_compared], [Cond.methodLink RX0 39 yX1_becomeProductOf], [Cond.instanceMethod yX1_becomeProductOf], [Cond.selects RX1 yX1_becomeProductOf yX1_becomeProductOf], [Cond.code yX1_becomeProductOf cX1_becomeProductOf 3 none], [Cond.methodLink RX0 43 yX0_isFinerBySorting], [Cond.instanceMethod yX0_isFinerBySorting]]
noncomputable def tgc12 : List (List Cond) := [[Cond.selects RX0 yX0_isFinerBySorting yX0_isFinerBySorting], [Cond.code yX0_isFinerBySorting cX0_isFinerBySorting 3 (some .boolean)], [Cond.methodLink RX0 47 yX1_classCount], [Cond.instanceMethod yX1_classCount], [Cond.selects RX1 yX1_classCount yX1_classCount], [Cond.code yX1_classCount cX1_classCount 1 (some .int)], [Cond.methodLink RX3 48 Lib.Math.min.name], [Cond.static Lib.Math.min.name], [Cond.initialized "java/lang/Math"], [Cond.code Lib.Math.min.name Lib.Math.min.code 2 (some .int)], [Cond.methodLink RX3 16 yX2_length], [Cond.methodLink RX3 45 yX2_empty]]
noncomputable def tgc13 : List (List Cond) := [[Cond.instanceMethod yX2_empty], [Cond.selects RX2 yX2_empty yX2_empty], [Cond.code yX2_empty cX2_empty 1 none], [Cond.methodLink RX3 53 yX3_mergeTwo], [Cond.instanceMethod yX3_mergeTwo], [Cond.selects RX3 yX3_mergeTwo yX3_mergeTwo], [Cond.code yX3_mergeTwo cX3_mergeTwo 11 none], [Cond.methodLink RX3 61 yX2_markOn], [Cond.methodLink RX3 64 yX2_append], [Cond.methodLink RX3 57 yX2_becomeCopyOf], [Cond.instanceMethod yX2_becomeCopyOf], [Cond.selects RX2 yX2_becomeCopyOf yX2_becomeCopyOf]]
noncomputable def tgc14 : List (List Cond) := [[Cond.code yX2_becomeCopyOf cX2_becomeCopyOf 4 none], [Cond.methodLink RX2 33 yX2_length], [Cond.methodLink RX3 67 yX1_classCount], [Cond.methodLink RX3 70 yX1_rankOf], [Cond.instanceMethod yX1_rankOf], [Cond.selects RX1 yX1_rankOf yX1_rankOf], [Cond.code yX1_rankOf cX1_rankOf 2 (some .int)], [Cond.methodLink RX3 20 yX3_insertEach], [Cond.methodLink RX3 24 yX3_mergeRuns], [Cond.instanceMethod yX3_mergeRuns], [Cond.selects RX3 yX3_mergeRuns yX3_mergeRuns], [Cond.code yX3_mergeRuns cX3_mergeRuns 7 none]]
noncomputable def tgc15 : List (List Cond) := [[Cond.methodLink RX3 28 yX3_gatherByRank], [Cond.instanceMethod yX3_gatherByRank], [Cond.selects RX3 yX3_gatherByRank yX3_gatherByRank], [Cond.code yX3_gatherByRank cX3_gatherByRank 5 none], [Cond.methodLink RX0 51 yX2_becomeCopyOf], [Cond.methodLink RX0 55 yX3_arrangeAll], [Cond.instanceMethod yX3_arrangeAll], [Cond.selects RX3 yX3_arrangeAll yX3_arrangeAll], [Cond.code yX3_arrangeAll cX3_arrangeAll 4 none], [Cond.methodLink RX0 59 yX2_isLike], [Cond.instanceMethod yX2_isLike], [Cond.selects RX2 yX2_isLike yX2_isLike]]
noncomputable def tgc16 : List (List Cond) := [[Cond.code yX2_isLike cX2_isLike 3 (some .boolean)], [Cond.methodLink RX0 91 yX2_reverse], [Cond.instanceMethod yX2_reverse], [Cond.selects RX2 yX2_reverse yX2_reverse], [Cond.code yX2_reverse cX2_reverse 3 none], [Cond.methodLink RX2 41 yX2_exchange], [Cond.methodLink RX0 94 yX1_becomeCopyOf], [Cond.instanceMethod yX1_becomeCopyOf], [Cond.selects RX1 yX1_becomeCopyOf yX1_becomeCopyOf], [Cond.code yX1_becomeCopyOf cX1_becomeCopyOf 3 none], [Cond.methodLink RX0 97 yX1_reverse], [Cond.instanceMethod yX1_reverse]]
noncomputable def tgc17 : List (List Cond) := [[Cond.selects RX1 yX1_reverse yX1_reverse], [Cond.code yX1_reverse cX1_reverse 2 none], [Cond.methodLink RX0 98 yX2_firstPlaceBy], [Cond.instanceMethod yX2_firstPlaceBy], [Cond.selects RX2 yX2_firstPlaceBy yX2_firstPlaceBy], [Cond.code yX2_firstPlaceBy cX2_firstPlaceBy 4 (some .int)], [Cond.methodLink RX0 102 yX2_valueOn], [Cond.methodLink RX0 71 yX1_rankOf], [Cond.methodLink RX0 105 yX2_remove], [Cond.instanceMethod yX2_remove], [Cond.selects RX2 yX2_remove yX2_remove], [Cond.code yX2_remove cX2_remove 3 none]]
noncomputable def tgc18 : List (List Cond) := [[Cond.fieldLink RJ5 15 "java/lang/AbstractStringBuilder" "value" "[B"], [Cond.fieldLink RJ5 22 "java/lang/AbstractStringBuilder" "coder" "B"], [Cond.methodLink RJ5 104 ⟨"java/lang/AbstractStringBuilder", "newCapacity", "(I)I"⟩], [Cond.sameMethod "java/lang/AbstractStringBuilder" "java/lang/AbstractStringBuilder" "newCapacity" "(I)I"], [Cond.selects RJ4 ⟨"java/lang/AbstractStringBuilder", "newCapacity", "(I)I"⟩ yJ5_newCapacity_0f7a4], [Cond.instanceMethod yJ5_newCapacity_0f7a4], [Cond.initialized RJ5], [Cond.code yJ5_newCapacity_0f7a4 cJ5_newCapacity_0f7a4 6 (some .int)], [Cond.constant RJ5 39 (2147483647)], [Cond.methodLink RJ5 114 yJ8_newLength_cabcc], [Cond.static yJ8_newLength_cabcc], [Cond.initialized RJ8]]
noncomputable def tgc19 : List (List Cond) := [[Cond.code yJ8_newLength_cabcc cJ8_newLength_cabcc 4 (some .int)], [Cond.methodLink RJ8 194 Lib.Math.max.name], [Cond.static Lib.Math.max.name], [Cond.code Lib.Math.max.name Lib.Math.max.code 2 (some .int)], [Cond.constant RJ8 200 (2147483639)], [Cond.methodLink RJ8 201 yJ8_hugeLength_7cf53], [Cond.static yJ8_hugeLength_7cf53], [Cond.code yJ8_hugeLength_7cf53 cJ8_hugeLength_7cf53 3 (some .int)], [Cond.methodLink RJ5 108 yJ7_copyOf_9075b], [Cond.static yJ7_copyOf_9075b], [Cond.initialized RJ7], [Cond.code yJ7_copyOf_9075b cJ7_copyOf_9075b 3 (some (.array .byte))]]
noncomputable def tgc20 : List (List Cond) := [[Cond.methodLink RJ7 310 ⟨"[B", "clone", "()Ljava/lang/Object;"⟩], [Cond.sameMethod "[B" "java/lang/Object" "clone" "()Ljava/lang/Object;"], [Cond.native ⟨"java/lang/Object", "clone", "()Ljava/lang/Object;"⟩], [Cond.instanceMethod ⟨"java/lang/Object", "clone", "()Ljava/lang/Object;"⟩], [Cond.selects "[B" ⟨"[B", "clone", "()Ljava/lang/Object;"⟩ ⟨"java/lang/Object", "clone", "()Ljava/lang/Object;"⟩], [Cond.classLink RJ7 311 "[B"], [Cond.arrayClass .byte], [Cond.methodLink RJ7 304 Lib.Math.min.name], [Cond.methodLink RJ7 150 arraycopyName], [Cond.native arraycopyName], [Cond.static arraycopyName], [Cond.initialized "java/lang/System"]]
noncomputable def tgc21 : List (List Cond) := [[Cond.methodLink RJ1 240 yJ2_inflate_0e8fd], [Cond.static yJ2_inflate_0e8fd], [Cond.initialized RJ2], [Cond.code yJ2_inflate_0e8fd cJ2_inflate_0e8fd 6 none], [Cond.methodLink RJ2 173 yJ2_checkBoundsOffCount_d044e], [Cond.static yJ2_checkBoundsOffCount_d044e], [Cond.code yJ2_checkBoundsOffCount_d044e cJ2_checkBoundsOffCount_d044e 3 none], [Cond.methodLink RJ2 48 yJ2_length_9d52b], [Cond.static yJ2_length_9d52b], [Cond.code yJ2_length_9d52b cJ2_length_9d52b 1 (some .int)], [Cond.methodLink RJ2 419 yJ0_checkBoundsOffCount_cabcc], [Cond.static yJ0_checkBoundsOffCount_cabcc]]
noncomputable def tgc22 : List (List Cond) := [[Cond.initialized RJ0], [Cond.code yJ0_checkBoundsOffCount_cabcc cJ0_checkBoundsOffCount_cabcc 3 (some .int)], [Cond.fieldLink RJ0 1053 "jdk/internal/util/Preconditions" "SIOOBE_FORMATTER" "Ljava/util/function/BiFunction;"], [Cond.methodLink RJ0 1065 yJ3_checkFromIndexSize_8c36e], [Cond.static yJ3_checkFromIndexSize_8c36e], [Cond.initialized RJ3], [Cond.code yJ3_checkFromIndexSize_8c36e cJ3_checkFromIndexSize_8c36e 4 (some .int)], [Cond.methodLink RJ2 111 yJ2_putChar_b72d1], [Cond.static yJ2_putChar_b72d1], [Cond.code yJ2_putChar_b72d1 cJ2_putChar_b72d1 3 none], [Cond.fieldLink RJ2 44 "java/lang/StringUTF16" "$assertionsDisabled" "Z"], [Cond.fieldLink RJ2 59 "java/lang/StringUTF16" "HI_BYTE_SHIFT" "I"]]
noncomputable def tgc23 : List (List Cond) := [[Cond.fieldLink RJ2 63 "java/lang/StringUTF16" "LO_BYTE_SHIFT" "I"], [Cond.fieldLink RJ5 79 "java/lang/AbstractStringBuilder" "count" "I"], [Cond.methodLink RJ5 83 ⟨"java/lang/AbstractStringBuilder", "isLatin1", "()Z"⟩], [Cond.sameMethod "java/lang/AbstractStringBuilder" "java/lang/AbstractStringBuilder" "isLatin1" "()Z"], [Cond.selects RJ4 ⟨"java/lang/AbstractStringBuilder", "isLatin1", "()Z"⟩ yJ5_isLatin1_aae02], [Cond.instanceMethod yJ5_isLatin1_aae02], [Cond.code yJ5_isLatin1_aae02 cJ5_isLatin1_aae02 1 (some .boolean)], [Cond.fieldLink RJ5 18 "java/lang/String" "COMPACT_STRINGS" "Z"], [Cond.methodLink RJ5 26 yJ2_newBytesFor_77867], [Cond.static yJ2_newBytesFor_77867], [Cond.code yJ2_newBytesFor_77867 cJ2_newBytesFor_77867 1 (some (.array .byte))], [Cond.methodLink RJ2 11 yJ2_newBytesLength_0f7a4]]
noncomputable def tgc24 : List (List Cond) := [[Cond.static yJ2_newBytesLength_0f7a4], [Cond.code yJ2_newBytesLength_0f7a4 cJ2_newBytesLength_0f7a4 1 (some .int)], [Cond.constant RJ2 20 (1073741823)], [Cond.methodLink RJ5 125 yJ1_inflate_0e8fd], [Cond.static yJ1_inflate_0e8fd], [Cond.initialized RJ1], [Cond.code yJ1_inflate_0e8fd cJ1_inflate_0e8fd 5 none], [Cond.methodLink RJ5 100 ⟨"java/lang/AbstractStringBuilder", "ensureCapacityInternal", "(I)V"⟩], [Cond.sameMethod "java/lang/AbstractStringBuilder" "java/lang/AbstractStringBuilder" "ensureCapacityInternal" "(I)V"], [Cond.selects RJ4 ⟨"java/lang/AbstractStringBuilder", "ensureCapacityInternal", "(I)V"⟩ yJ5_ensureCapacityInternal_d00df], [Cond.instanceMethod yJ5_ensureCapacityInternal_d00df], [Cond.code yJ5_ensureCapacityInternal_d00df cJ5_ensureCapacityInternal_d00df 3 none]]
noncomputable def tgc25 : List (List Cond) := [[Cond.methodLink RJ5 191 yJ1_canEncode_fc78d], [Cond.static yJ1_canEncode_fc78d], [Cond.code yJ1_canEncode_fc78d cJ1_canEncode_fc78d 1 (some .boolean)], [Cond.methodLink RJ5 195 ⟨"java/lang/AbstractStringBuilder", "inflate", "()V"⟩], [Cond.sameMethod "java/lang/AbstractStringBuilder" "java/lang/AbstractStringBuilder" "inflate" "()V"], [Cond.selects RJ4 ⟨"java/lang/AbstractStringBuilder", "inflate", "()V"⟩ yJ5_inflate_da8c8], [Cond.instanceMethod yJ5_inflate_da8c8], [Cond.code yJ5_inflate_da8c8 cJ5_inflate_da8c8 2 none], [Cond.methodLink RJ5 197 yJ2_putCharSB_b72d1], [Cond.static yJ2_putCharSB_b72d1], [Cond.code yJ2_putCharSB_b72d1 cJ2_putCharSB_b72d1 3 none], [Cond.methodLink RJ2 67 yJ2_checkIndex_2214a]]
noncomputable def tgc26 : List (List Cond) := [[Cond.static yJ2_checkIndex_2214a], [Cond.code yJ2_checkIndex_2214a cJ2_checkIndex_2214a 2 none], [Cond.methodLink RJ2 414 yJ0_checkIndex_df160], [Cond.static yJ0_checkIndex_df160], [Cond.code yJ0_checkIndex_df160 cJ0_checkIndex_df160 2 none], [Cond.methodLink RJ0 1059 yJ3_checkIndex_8e157], [Cond.static yJ3_checkIndex_8e157], [Cond.code yJ3_checkIndex_8e157 cJ3_checkIndex_8e157 3 (some .int)], [Cond.methodLink RJ4 50 yJ5_append_3fe6f], [Cond.sameMethod "java/lang/AbstractStringBuilder" "java/lang/AbstractStringBuilder" "append" "(C)Ljava/lang/AbstractStringBuilder;"], [Cond.superclass RJ4 RJ5], [Cond.instanceMethod yJ5_append_3fe6f]]
noncomputable def tgc27 : List (List Cond) := [[Cond.code yJ5_append_3fe6f cJ5_append_3fe6f 2 (some (.object "java/lang/AbstractStringBuilder"))], [Cond.methodLink RX4 322 yJ4_length_8abf5], [Cond.instanceMethod yJ4_length_8abf5], [Cond.selects RJ4 yJ4_length_8abf5 yJ4_length_8abf5], [Cond.initialized RJ4], [Cond.code yJ4_length_8abf5 cJ4_length_8abf5 1 (some .int)], [Cond.methodLink RJ4 343 yJ5_length_8abf5], [Cond.sameMethod "java/lang/AbstractStringBuilder" "java/lang/AbstractStringBuilder" "length" "()I"], [Cond.instanceMethod yJ5_length_8abf5], [Cond.code yJ5_length_8abf5 cJ5_length_8abf5 1 (some .int)], [Cond.methodLink RX4 323 yJ4_append_cf468], [Cond.instanceMethod yJ4_append_cf468]]
noncomputable def tgc28 : List (List Cond) := [[Cond.selects RJ4 yJ4_append_cf468 yJ4_append_cf468], [Cond.code yJ4_append_cf468 cJ4_append_cf468 2 (some (.object "java/lang/StringBuilder"))], [Cond.methodLink RJ2 96 yJ2_checkBoundsBeginEnd_d044e], [Cond.static yJ2_checkBoundsBeginEnd_d044e], [Cond.code yJ2_checkBoundsBeginEnd_d044e cJ2_checkBoundsBeginEnd_d044e 3 none], [Cond.methodLink RJ2 241 yJ0_checkBoundsBeginEnd_23922], [Cond.static yJ0_checkBoundsBeginEnd_23922], [Cond.code yJ0_checkBoundsBeginEnd_23922 cJ0_checkBoundsBeginEnd_23922 3 none], [Cond.methodLink RJ0 1062 yJ3_checkFromToIndex_8c36e], [Cond.static yJ3_checkFromToIndex_8c36e], [Cond.code yJ3_checkFromToIndex_8c36e cJ3_checkFromToIndex_8c36e 4 (some .int)], [Cond.methodLink RJ2 393 yJ2_getChars_ba4f3]]
noncomputable def tgc29 : List (List Cond) := [[Cond.static yJ2_getChars_ba4f3], [Cond.code yJ2_getChars_ba4f3 cJ2_getChars_ba4f3 7 (some .int)], [Cond.fieldLink RJ2 403 "java/lang/Integer" "DigitOnes" "[B"], [Cond.fieldLink RJ2 407 "java/lang/Integer" "DigitTens" "[B"], [Cond.methodLink RJ5 245 yJ6_stringSize_0f7a4], [Cond.static yJ6_stringSize_0f7a4], [Cond.code yJ6_stringSize_0f7a4 cJ6_stringSize_0f7a4 4 (some .int)], [Cond.methodLink RJ5 248 yJ6_getChars_ba4f3], [Cond.static yJ6_getChars_ba4f3], [Cond.code yJ6_getChars_ba4f3 cJ6_getChars_ba4f3 7 (some .int)], [Cond.fieldLink RJ6 83 "java/lang/Integer" "DigitOnes" "[B"], [Cond.fieldLink RJ6 87 "java/lang/Integer" "DigitTens" "[B"]]
noncomputable def tgc30 : List (List Cond) := [[Cond.methodLink RJ5 251 yJ2_getChars_46870], [Cond.static yJ2_getChars_46870], [Cond.code yJ2_getChars_46870 cJ2_getChars_46870 5 (some .int)], [Cond.methodLink RJ4 53 yJ5_append_c97b9], [Cond.sameMethod "java/lang/AbstractStringBuilder" "java/lang/AbstractStringBuilder" "append" "(I)Ljava/lang/AbstractStringBuilder;"], [Cond.instanceMethod yJ5_append_c97b9], [Cond.code yJ5_append_c97b9 cJ5_append_c97b9 4 (some (.object "java/lang/AbstractStringBuilder"))], [Cond.methodLink RJ7 339 yJ7_copyOfRangeByte_39247], [Cond.static yJ7_copyOfRangeByte_39247], [Cond.code yJ7_copyOfRangeByte_39247 cJ7_copyOfRangeByte_39247 5 (some (.array .byte))], [Cond.methodLink RJ7 343 yJ7_checkLength_df160], [Cond.static yJ7_checkLength_df160]]
noncomputable def tgc31 : List (List Cond) := [[Cond.code yJ7_checkLength_df160 cJ7_checkLength_df160 2 none], [Cond.classLink RJ7 45 RJ4], [Cond.instantiable RJ4 4], [Cond.methodLink RJ2 123 yJ2_compress_5af95], [Cond.static yJ2_compress_5af95], [Cond.code yJ2_compress_5af95 cJ2_compress_5af95 7 (some .int)], [Cond.methodLink RJ2 71 yJ2_getChar_3b067], [Cond.static yJ2_getChar_3b067], [Cond.code yJ2_getChar_3b067 cJ2_getChar_3b067 2 (some .char)], [Cond.methodLink RJ2 126 yJ7_copyOfRange_39247], [Cond.static yJ7_copyOfRange_39247], [Cond.code yJ7_copyOfRange_39247 cJ7_copyOfRange_39247 3 (some (.array .byte))]]
noncomputable def tgc32 : List (List Cond) := [[Cond.methodLink RJ0 1 objectInit], [Cond.fieldLink RJ0 15 "java/lang/String" "coder" "B"], [Cond.fieldLink RJ0 9 "java/lang/String" "value" "[B"], [Cond.fieldLink RJ0 38 "java/lang/String" "COMPACT_STRINGS" "Z"], [Cond.fieldLink RJ0 1048 "java/lang/AbstractStringBuilder" "maybeLatin1" "Z"], [Cond.methodLink RJ0 552 ⟨"java/lang/AbstractStringBuilder", "getValue", "()[B"⟩], [Cond.sameMethod "java/lang/AbstractStringBuilder" "java/lang/AbstractStringBuilder" "getValue" "()[B"], [Cond.selects RJ4 ⟨"java/lang/AbstractStringBuilder", "getValue", "()[B"⟩ yJ5_getValue_6d5f1], [Cond.instanceMethod yJ5_getValue_6d5f1], [Cond.code yJ5_getValue_6d5f1 cJ5_getValue_6d5f1 1 (some (.array .byte))], [Cond.methodLink RJ0 549 ⟨"java/lang/AbstractStringBuilder", "length", "()I"⟩], [Cond.selects RJ4 ⟨"java/lang/AbstractStringBuilder", "length", "()I"⟩ yJ4_length_8abf5]]
noncomputable def tgc33 : List (List Cond) := [[Cond.methodLink RJ0 1047 ⟨"java/lang/AbstractStringBuilder", "isLatin1", "()Z"⟩], [Cond.methodLink RJ0 54 yJ7_copyOfRange_39247], [Cond.methodLink RJ0 1051 yJ2_compress_39247], [Cond.static yJ2_compress_39247], [Cond.code yJ2_compress_39247 cJ2_compress_39247 6 (some (.array .byte))], [Cond.methodLink RJ0 47 yJ2_coderFromArrayLen_85cad], [Cond.static yJ2_coderFromArrayLen_85cad], [Cond.code yJ2_coderFromArrayLen_85cad cJ2_coderFromArrayLen_85cad 2 (some .byte)], [Cond.methodLink RJ0 489 yJ0_init_db425], [Cond.instanceMethod yJ0_init_db425], [Cond.code yJ0_init_db425 cJ0_init_db425 5 none], [Cond.classLink RJ4 18 RJ0]]
noncomputable def tgc34 : List (List Cond) := [[Cond.instantiable RJ0 4], [Cond.methodLink RJ4 137 yJ0_init_81219], [Cond.instanceMethod yJ0_init_81219], [Cond.code yJ0_init_81219 cJ0_init_81219 2 none], [Cond.classLink RX1 62 RJ4], [Cond.methodLink RX1 64 yJ4_init_da8c8], [Cond.instanceMethod yJ4_init_da8c8], [Cond.code yJ4_init_da8c8 cJ4_init_da8c8 1 none], [Cond.methodLink RJ4 1 yJ5_init_d00df], [Cond.instanceMethod yJ5_init_d00df], [Cond.code yJ5_init_d00df cJ5_init_d00df 2 none], [Cond.methodLink RJ5 3 objectInit]]
noncomputable def tgc35 : List (List Cond) := [[Cond.static yX4_appendGap], [Cond.initialized RX4], [Cond.code yX4_appendGap cX4_appendGap 1 none], [Cond.methodLink RX1 72 yJ4_append_bf812], [Cond.instanceMethod yJ4_append_bf812], [Cond.selects RJ4 yJ4_append_bf812 yJ4_append_bf812], [Cond.code yJ4_append_bf812 cJ4_append_bf812 2 (some (.object "java/lang/StringBuilder"))], [Cond.methodLink RX1 76 yJ4_append_cf468], [Cond.methodLink RX1 79 yJ4_toString_0e30d], [Cond.instanceMethod yJ4_toString_0e30d], [Cond.selects RJ4 yJ4_toString_0e30d yJ4_toString_0e30d], [Cond.code yJ4_toString_0e30d cJ4_toString_0e30d 1 (some (.object "java/lang/String"))]]
noncomputable def tgc36 : List (List Cond) := [[Cond.classLink RX2 62 RJ4], [Cond.methodLink RX2 64 yJ4_init_da8c8], [Cond.methodLink RX2 69 yJ4_append_bf812], [Cond.methodLink RX2 72 yJ4_append_cf468], [Cond.methodLink RX2 75 yJ4_toString_0e30d], [Cond.methodLink RX2 86 yX1_rankOf], [Cond.methodLink RX2 79 yX1_classCount], [Cond.methodLink RX2 82 yX2_appendLot], [Cond.instanceMethod yX2_appendLot], [Cond.selects RX2 yX2_appendLot yX2_appendLot], [Cond.code yX2_appendLot cX2_appendLot 7 none], [Cond.methodLink RX4 1 objectInit]]
noncomputable def tgc37 : List (List Cond) := [[Cond.classLink RX4 9 RX2], [Cond.fieldLink RX4 11 "Orderlattice" "rows" "[LOrderlattice$Row;"], [Cond.classLink RX4 15 RX1], [Cond.fieldLink RX4 17 "Orderlattice" "orders" "[LOrderlattice$Order;"], [Cond.classLink RX4 21 RX3], [Cond.fieldLink RX4 24 "Orderlattice" "sorter" "LOrderlattice$Sorter;"], [Cond.classLink RX4 28 RX0], [Cond.instantiable RX0 4], [Cond.fieldLink RX4 31 "Orderlattice" "auditor" "LOrderlattice$Auditor;"], [Cond.fieldLink RX4 36 "Orderlattice" "spareRow" "LOrderlattice$Row;"], [Cond.fieldLink RX4 41 "Orderlattice" "spareOrder" "LOrderlattice$Order;"], [Cond.fieldLink RX4 45 "Orderlattice" "marksGiven" "I"]]
noncomputable def tgc38 : List (List Cond) := [[Cond.fieldLink RX4 49 "Orderlattice" "refusals" "I"], [Cond.fieldLink RX4 52 "Orderlattice" "knocks" "I"], [Cond.instanceMethod yX0_init], [Cond.code yX0_init cX0_init 1 none], [Cond.methodLink RX4 63 yX2_length], [Cond.methodLink RX4 79 yX4_refuse], [Cond.instanceMethod yX4_refuse], [Cond.selects RX4 yX4_refuse yX4_refuse], [Cond.code yX4_refuse cX4_refuse 1 (some .int)], [Cond.methodLink RX4 82 yX4_nextMark], [Cond.instanceMethod yX4_nextMark], [Cond.selects RX4 yX4_nextMark yX4_nextMark]]
noncomputable def tgc39 : List (List Cond) := [[Cond.code yX4_nextMark cX4_nextMark 2 (some .int)], [Cond.methodLink RX4 319 yX2_insert], [Cond.instanceMethod yX2_insert], [Cond.selects RX2 yX2_insert yX2_insert], [Cond.code yX2_insert cX2_insert 5 none], [Cond.methodLink RX4 55 yX4_rowAt], [Cond.instanceMethod yX4_rowAt], [Cond.selects RX4 yX4_rowAt yX4_rowAt], [Cond.code yX4_rowAt cX4_rowAt 3 (some (.object "Orderlattice$Row"))], [Cond.classLink RX4 302 "java/lang/IndexOutOfBoundsException"], [Cond.initialized "java/lang/IndexOutOfBoundsException"], [Cond.methodLink RX4 59 yX4_demandValue]]
noncomputable def tgc40 : List (List Cond) := [[Cond.static yX4_demandValue], [Cond.code yX4_demandValue cX4_demandValue 1 none], [Cond.methodLink RX4 75 yX4_demandWithin], [Cond.static yX4_demandWithin], [Cond.code yX4_demandWithin cX4_demandWithin 2 none], [Cond.classLink RX4 136 "java/lang/IllegalArgumentException"], [Cond.initialized "java/lang/IllegalArgumentException"], [Cond.methodLink RX4 67 yX4_placeNew], [Cond.instanceMethod yX4_placeNew], [Cond.selects RX4 yX4_placeNew yX4_placeNew], [Cond.code yX4_placeNew cX4_placeNew 5 (some .int)], [Cond.methodLink RX4 71 yX4_demandGap]]
noncomputable def tgc41 : List (List Cond) := [[Cond.static yX4_demandGap], [Cond.code yX4_demandGap cX4_demandGap 2 none], [Cond.methodLink RX4 85 yX2_append], [Cond.methodLink RX4 88 yX4_demandPlace], [Cond.static yX4_demandPlace], [Cond.code yX4_demandPlace cX4_demandPlace 2 none], [Cond.methodLink RX4 91 yX2_markOn], [Cond.methodLink RX4 95 yX2_remove], [Cond.methodLink RX4 101 yX2_becomeCopyOf], [Cond.methodLink RX4 105 yX2_reverse], [Cond.methodLink RX4 108 yJ9_floorMod_7cf53], [Cond.static yJ9_floorMod_7cf53]]
noncomputable def tgc42 : List (List Cond) := [[Cond.code yJ9_floorMod_7cf53 cJ9_floorMod_7cf53 3 (some .int)], [Cond.methodLink RX4 114 yX2_valueOn], [Cond.methodLink RX4 117 yX2_replace], [Cond.methodLink RX4 121 yX2_exchange], [Cond.methodLink RX4 124 yX4_orderAt], [Cond.instanceMethod yX4_orderAt], [Cond.selects RX4 yX4_orderAt yX4_orderAt], [Cond.code yX4_orderAt cX4_orderAt 3 (some (.object "Orderlattice$Order"))], [Cond.methodLink RX4 128 yX3_arrangeAll], [Cond.methodLink RX4 132 yX2_placesUnlike], [Cond.instanceMethod yX2_placesUnlike], [Cond.selects RX2 yX2_placesUnlike yX2_placesUnlike]]
noncomputable def tgc43 : List (List Cond) := [[Cond.code yX2_placesUnlike cX2_placesUnlike 4 (some .int)], [Cond.methodLink RX4 143 yX3_insertEach], [Cond.methodLink RX4 147 yX2_isInSequenceBy], [Cond.methodLink RX4 151 yX2_told], [Cond.instanceMethod yX2_told], [Cond.selects RX2 yX2_told yX2_told], [Cond.code yX2_told cX2_told 3 (some (.object "java/lang/String"))], [Cond.methodLink RX4 155 yX2_lastPlaceBy], [Cond.instanceMethod yX2_lastPlaceBy], [Cond.selects RX2 yX2_lastPlaceBy yX2_lastPlaceBy], [Cond.code yX2_lastPlaceBy cX2_lastPlaceBy 4 (some .int)], [Cond.methodLink RX4 159 yX2_firstPlaceBy]]
noncomputable def tgc44 : List (List Cond) := [[Cond.methodLink RX4 162 yX1_rankOf], [Cond.methodLink RX4 165 yX2_hasAlike], [Cond.instanceMethod yX2_hasAlike], [Cond.selects RX2 yX2_hasAlike yX2_hasAlike], [Cond.code yX2_hasAlike cX2_hasAlike 4 (some .boolean)], [Cond.methodLink RX4 169 yX2_thingsAhead], [Cond.instanceMethod yX2_thingsAhead], [Cond.selects RX2 yX2_thingsAhead yX2_thingsAhead], [Cond.code yX2_thingsAhead cX2_thingsAhead 5 (some .int)], [Cond.methodLink RX4 173 yX2_nearestPlace], [Cond.instanceMethod yX2_nearestPlace], [Cond.selects RX2 yX2_nearestPlace yX2_nearestPlace]]
noncomputable def tgc45 : List (List Cond) := [[Cond.code yX2_nearestPlace cX2_nearestPlace 6 (some .int)], [Cond.methodLink RX2 50 yX2_isOnSide], [Cond.static yX2_isOnSide], [Cond.code yX2_isOnSide cX2_isOnSide 2 (some .boolean)], [Cond.methodLink RX2 54 yX2_isNearer], [Cond.instanceMethod yX2_isNearer], [Cond.selects RX2 yX2_isNearer yX2_isNearer], [Cond.code yX2_isNearer cX2_isNearer 6 (some .boolean)], [Cond.methodLink RX4 177 yX2_lots], [Cond.instanceMethod yX2_lots], [Cond.selects RX2 yX2_lots yX2_lots], [Cond.code yX2_lots cX2_lots 4 (some .int)]]
noncomputable def tgc46 : List (List Cond) := [[Cond.methodLink RX2 58 yX2_isFirstOfLot], [Cond.instanceMethod yX2_isFirstOfLot], [Cond.selects RX2 yX2_isFirstOfLot yX2_isFirstOfLot], [Cond.code yX2_isFirstOfLot cX2_isFirstOfLot 4 (some .boolean)], [Cond.methodLink RX4 180 yX2_lotsAhead], [Cond.instanceMethod yX2_lotsAhead], [Cond.selects RX2 yX2_lotsAhead yX2_lotsAhead], [Cond.code yX2_lotsAhead cX2_lotsAhead 5 (some .int)], [Cond.methodLink RX4 183 yX2_lotsTold], [Cond.instanceMethod yX2_lotsTold], [Cond.selects RX2 yX2_lotsTold yX2_lotsTold], [Cond.code yX2_lotsTold cX2_lotsTold 4 (some (.object "java/lang/String"))]]
noncomputable def tgc47 : List (List Cond) := [[Cond.classLink RX4 187 RJ4], [Cond.methodLink RX4 189 yJ4_init_da8c8], [Cond.methodLink RX4 190 yX4_appendGap], [Cond.methodLink RX4 194 yJ4_append_bf812], [Cond.methodLink RX4 197 yJ4_toString_0e30d], [Cond.methodLink RX4 200 yX1_length], [Cond.methodLink RX4 201 yX1_append], [Cond.instanceMethod yX1_append], [Cond.selects RX1 yX1_append yX1_append], [Cond.code yX1_append cX1_append 3 none], [Cond.methodLink RX4 204 yX1_classCount], [Cond.methodLink RX4 207 yX1_keyOn]]
noncomputable def tgc48 : List (List Cond) := [[Cond.methodLink RX4 210 yX1_removeLast], [Cond.instanceMethod yX1_removeLast], [Cond.selects RX1 yX1_removeLast yX1_removeLast], [Cond.code yX1_removeLast cX1_removeLast 1 none], [Cond.methodLink RX4 213 yX1_empty], [Cond.instanceMethod yX1_empty], [Cond.selects RX1 yX1_empty yX1_empty], [Cond.code yX1_empty cX1_empty 1 none], [Cond.methodLink RX4 214 yX1_becomeCopyOf], [Cond.methodLink RX4 217 yX1_reverse], [Cond.methodLink RX4 218 yX1_downSteps], [Cond.instanceMethod yX1_downSteps]]
noncomputable def tgc49 : List (List Cond) := [[Cond.selects RX1 yX1_downSteps yX1_downSteps], [Cond.code yX1_downSteps cX1_downSteps 3 (some .int)], [Cond.methodLink RX4 221 yX1_becomeProductOf], [Cond.methodLink RX4 246 yX1_numberBy], [Cond.methodLink RX4 225 yX1_compared], [Cond.methodLink RX4 228 yX4_coarsestKey], [Cond.instanceMethod yX4_coarsestKey], [Cond.selects RX4 yX4_coarsestKey yX4_coarsestKey], [Cond.code yX4_coarsestKey cX4_coarsestKey 7 (some .int)], [Cond.methodLink RX4 231 yX1_told], [Cond.instanceMethod yX1_told], [Cond.selects RX1 yX1_told yX1_told]]
noncomputable def tgc50 : List (List Cond) := [[Cond.code yX1_told cX1_told 3 (some (.object "java/lang/String"))], [Cond.methodLink RX4 232 yX4_comparedByBoth], [Cond.static yX4_comparedByBoth], [Cond.code yX4_comparedByBoth cX4_comparedByBoth 6 (some .int)], [Cond.methodLink RX4 313 yX4_thingsInAll], [Cond.instanceMethod yX4_thingsInAll], [Cond.selects RX4 yX4_thingsInAll yX4_thingsInAll], [Cond.code yX4_thingsInAll cX4_thingsInAll 3 (some .int)], [Cond.methodLink RX4 316 yX4_stepsInAll], [Cond.instanceMethod yX4_stepsInAll], [Cond.selects RX4 yX4_stepsInAll yX4_stepsInAll], [Cond.code yX4_stepsInAll cX4_stepsInAll 3 (some .int)]]
noncomputable def tgc51 : List (List Cond) := [[Cond.methodLink RX4 249 yX4_count], [Cond.instanceMethod yX4_count], [Cond.selects RX4 yX4_count yX4_count], [Cond.code yX4_count cX4_count 2 (some .int)], [Cond.methodLink RX4 252 yX0_areSignsTurned], [Cond.instanceMethod yX0_areSignsTurned], [Cond.selects RX0 yX0_areSignsTurned yX0_areSignsTurned], [Cond.code yX0_areSignsTurned cX0_areSignsTurned 4 (some .boolean)], [Cond.methodLink RX4 255 yX0_areRanksAsClasses], [Cond.instanceMethod yX0_areRanksAsClasses], [Cond.selects RX0 yX0_areRanksAsClasses yX0_areRanksAsClasses], [Cond.code yX0_areRanksAsClasses cX0_areRanksAsClasses 4 (some .boolean)]]
noncomputable def tgc52 : List (List Cond) := [[Cond.methodLink RX0 67 yX0_isRankOfSome], [Cond.static yX0_isRankOfSome], [Cond.code yX0_isRankOfSome cX0_isRankOfSome 3 (some .boolean)], [Cond.methodLink RX4 258 yX0_areWaysAgreed], [Cond.instanceMethod yX0_areWaysAgreed], [Cond.selects RX0 yX0_areWaysAgreed yX0_areWaysAgreed], [Cond.code yX0_areWaysAgreed cX0_areWaysAgreed 4 (some .boolean)], [Cond.methodLink RX4 262 yX0_staysSorted], [Cond.instanceMethod yX0_staysSorted], [Cond.selects RX0 yX0_staysSorted yX0_staysSorted], [Cond.code yX0_staysSorted cX0_staysSorted 3 (some .boolean)], [Cond.methodLink RX4 265 yX0_isTurnedAlike]]
noncomputable def tgc53 : List (List Cond) := [[Cond.instanceMethod yX0_isTurnedAlike], [Cond.selects RX0 yX0_isTurnedAlike yX0_isTurnedAlike], [Cond.code yX0_isTurnedAlike cX0_isTurnedAlike 3 (some .boolean)], [Cond.methodLink RX4 268 yX0_isQueuedAlike], [Cond.instanceMethod yX0_isQueuedAlike], [Cond.selects RX0 yX0_isQueuedAlike yX0_isQueuedAlike], [Cond.code yX0_isQueuedAlike cX0_isQueuedAlike 5 (some .boolean)], [Cond.methodLink RX4 271 yX0_isRefiningSound], [Cond.instanceMethod yX0_isRefiningSound], [Cond.selects RX0 yX0_isRefiningSound yX0_isRefiningSound], [Cond.code yX0_isRefiningSound cX0_isRefiningSound 4 (some .boolean)], [Cond.methodLink RX4 275 yX0_isProductAlike]]
noncomputable def tgc54 : List (List Cond) := [[Cond.instanceMethod yX0_isProductAlike], [Cond.selects RX0 yX0_isProductAlike yX0_isProductAlike], [Cond.code yX0_isProductAlike cX0_isProductAlike 4 (some .boolean)], [Cond.methodLink RX4 281 yX4_mixed], [Cond.static yX4_mixed], [Cond.code yX4_mixed cX4_mixed 3 (some .long)], [Cond.constantLong RX4 326 (31)], [Cond.methodLink RX4 328 yX1_isDownOn], [Cond.methodLink RX4 242 yX4_pairsApart], [Cond.static yX4_pairsApart], [Cond.code yX4_pairsApart cX4_pairsApart 5 (some .int)], [Cond.methodLink RX4 236 yX1_isFinerThan]]
noncomputable def tgc55 : List (List Cond) := [[Cond.constantLong RX4 279 (7842)], [Cond.methodLink RX4 285 yX4_mixedWithRows], [Cond.instanceMethod yX4_mixedWithRows], [Cond.selects RX4 yX4_mixedWithRows yX4_mixedWithRows], [Cond.code yX4_mixedWithRows cX4_mixedWithRows 8 (some .long)], [Cond.methodLink RX4 289 yX4_mixedWithOrders], [Cond.instanceMethod yX4_mixedWithOrders], [Cond.selects RX4 yX4_mixedWithOrders yX4_mixedWithOrders], [Cond.code yX4_mixedWithOrders cX4_mixedWithOrders 8 (some .long)], [Cond.methodLink RX4 292 yX4_mixedWithPairs], [Cond.instanceMethod yX4_mixedWithPairs], [Cond.selects RX4 yX4_mixedWithPairs yX4_mixedWithPairs]]
noncomputable def tgc56 : List (List Cond) := [[Cond.code yX4_mixedWithPairs cX4_mixedWithPairs 7 (some .long)], [Cond.methodLink RX4 295 yX4_mixedWithSequences], [Cond.instanceMethod yX4_mixedWithSequences], [Cond.selects RX4 yX4_mixedWithSequences yX4_mixedWithSequences], [Cond.code yX4_mixedWithSequences cX4_mixedWithSequences 7 (some .long)], [Cond.methodLink RX4 298 yX4_isSound], [Cond.instanceMethod yX4_isSound], [Cond.selects RX4 yX4_isSound yX4_isSound], [Cond.code yX4_isSound cX4_isSound 7 (some .boolean)], [Cond.fieldLink RX6 17 "OrderlatticeModel" "sizes" "[I"], [Cond.methodLink RX6 65 yX6_isNoRow], [Cond.static yX6_isNoRow]]
noncomputable def tgc57 : List (List Cond) := [[Cond.initialized RX6], [Cond.code yX6_isNoRow cX6_isNoRow 1 (some .boolean)], [Cond.methodLink RX6 40 yX6_isNo], [Cond.static yX6_isNo], [Cond.code yX6_isNo cX6_isNo 2 (some .boolean)], [Cond.methodLink RX6 69 yX6_start], [Cond.instanceMethod yX6_start], [Cond.selects RX6 yX6_start yX6_start], [Cond.code yX6_start cX6_start 3 (some .boolean)], [Cond.fieldLink RX6 32 "OrderlatticeModel" "thrown" "I"], [Cond.methodLink RX6 36 yX6_refuse], [Cond.instanceMethod yX6_refuse]]
noncomputable def tgc58 : List (List Cond) := [[Cond.selects RX6 yX6_refuse yX6_refuse], [Cond.code yX6_refuse cX6_refuse 3 (some .boolean)], [Cond.methodLink RX6 72 yX6_isNoValue], [Cond.static yX6_isNoValue], [Cond.code yX6_isNoValue cX6_isNoValue 1 (some .boolean)], [Cond.methodLink RX6 75 yX6_no], [Cond.instanceMethod yX6_no], [Cond.selects RX6 yX6_no yX6_no], [Cond.code yX6_no cX6_no 1 (some .int)], [Cond.fieldLink RX6 44 "OrderlatticeModel" "refused" "I"], [Cond.methodLink RX6 79 yX6_at], [Cond.instanceMethod yX6_at]]
noncomputable def tgc59 : List (List Cond) := [[Cond.selects RX6 yX6_at yX6_at], [Cond.code yX6_at cX6_at 5 (some .int)], [Cond.fieldLink RX6 11 "OrderlatticeModel" "values" "[[I"], [Cond.fieldLink RX6 14 "OrderlatticeModel" "marks" "[[I"], [Cond.fieldLink RX6 62 "OrderlatticeModel" "put" "I"], [Cond.methodLink RX6 86 yX6_isNoOrder], [Cond.static yX6_isNoOrder], [Cond.code yX6_isNoOrder cX6_isNoOrder 1 (some .boolean)], [Cond.methodLink RX6 89 yX6_sorted], [Cond.instanceMethod yX6_sorted], [Cond.selects RX6 yX6_sorted yX6_sorted], [Cond.code yX6_sorted cX6_sorted 8 (some .int)]]
noncomputable def tgc60 : List (List Cond) := [[Cond.methodLink RX6 51 yX6_compareNow], [Cond.instanceMethod yX6_compareNow], [Cond.selects RX6 yX6_compareNow yX6_compareNow], [Cond.code yX6_compareNow cX6_compareNow 7 (some .int)], [Cond.fieldLink RX6 29 "OrderlatticeModel" "steps" "[I"], [Cond.fieldLink RX6 21 "OrderlatticeModel" "keys" "[[I"], [Cond.fieldLink RX6 26 "OrderlatticeModel" "downs" "[[Z"], [Cond.methodLink RX6 47 yX6_keyNow], [Cond.static yX6_keyNow], [Cond.code yX6_keyNow cX6_keyNow 2 (some .int)], [Cond.methodLink RX6 82 yX6_change], [Cond.instanceMethod yX6_change]]
noncomputable def tgc61 : List (List Cond) := [[Cond.selects RX6 yX6_change yX6_change], [Cond.code yX6_change cX6_change 6 none], [Cond.methodLink RX6 92 yX6_isInSequence], [Cond.instanceMethod yX6_isInSequence], [Cond.selects RX6 yX6_isInSequence yX6_isInSequence], [Cond.code yX6_isInSequence cX6_isInSequence 4 (some .boolean)], [Cond.methodLink RJ5 226 yJ2_putCharsAt_cd4e5], [Cond.static yJ2_putCharsAt_cd4e5], [Cond.code yJ2_putCharsAt_cd4e5 cJ2_putCharsAt_cd4e5 7 (some .int)], [Cond.methodLink RJ5 40 yJ0_coder_7d493], [Cond.instanceMethod yJ0_coder_7d493], [Cond.selects RJ0 yJ0_coder_7d493 yJ0_coder_7d493]]
noncomputable def tgc62 : List (List Cond) := [[Cond.code yJ0_coder_7d493 cJ0_coder_7d493 1 (some .byte)], [Cond.methodLink RJ0 212 arraycopyName], [Cond.methodLink RJ0 335 yJ0_coder_7d493], [Cond.methodLink RJ0 106 yJ1_inflate_0e8fd], [Cond.methodLink RJ5 397 ⟨"java/lang/AbstractStringBuilder", "inflateIfNeededFor", "(Ljava/lang/String;)V"⟩], [Cond.sameMethod "java/lang/AbstractStringBuilder" "java/lang/AbstractStringBuilder" "inflateIfNeededFor" "(Ljava/lang/String;)V"], [Cond.selects RJ4 ⟨"java/lang/AbstractStringBuilder", "inflateIfNeededFor", "(Ljava/lang/String;)V"⟩ yJ5_inflateIfNeededFor_a7421], [Cond.instanceMethod yJ5_inflateIfNeededFor_a7421], [Cond.code yJ5_inflateIfNeededFor_a7421 cJ5_inflateIfNeededFor_a7421 2 none], [Cond.methodLink RJ5 399 yJ0_getBytes_840e7], [Cond.instanceMethod yJ0_getBytes_840e7], [Cond.selects RJ0 yJ0_getBytes_840e7 yJ0_getBytes_840e7]]
noncomputable def tgc63 : List (List Cond) := [[Cond.code yJ0_getBytes_840e7 cJ0_getBytes_840e7 4 none], [Cond.methodLink RJ5 204 ⟨"java/lang/AbstractStringBuilder", "appendNull", "()Ljava/lang/AbstractStringBuilder;"⟩], [Cond.sameMethod "java/lang/AbstractStringBuilder" "java/lang/AbstractStringBuilder" "appendNull" "()Ljava/lang/AbstractStringBuilder;"], [Cond.selects RJ4 ⟨"java/lang/AbstractStringBuilder", "appendNull", "()Ljava/lang/AbstractStringBuilder;"⟩ yJ5_appendNull_278bc], [Cond.instanceMethod yJ5_appendNull_278bc], [Cond.code yJ5_appendNull_278bc cJ5_appendNull_278bc 3 (some (.object "java/lang/AbstractStringBuilder"))], [Cond.methodLink RJ5 32 yJ0_length_8abf5], [Cond.instanceMethod yJ0_length_8abf5], [Cond.selects RJ0 yJ0_length_8abf5 yJ0_length_8abf5], [Cond.code yJ0_length_8abf5 cJ0_length_8abf5 1 (some .int)], [Cond.methodLink RJ5 208 ⟨"java/lang/AbstractStringBuilder", "putStringAt", "(ILjava/lang/String;)V"⟩], [Cond.sameMethod "java/lang/AbstractStringBuilder" "java/lang/AbstractStringBuilder" "putStringAt" "(ILjava/lang/String;)V"]]
noncomputable def tgc64 : List (List Cond) := [[Cond.selects RJ4 ⟨"java/lang/AbstractStringBuilder", "putStringAt", "(ILjava/lang/String;)V"⟩ yJ5_putStringAt_47b60], [Cond.instanceMethod yJ5_putStringAt_47b60], [Cond.code yJ5_putStringAt_47b60 cJ5_putStringAt_47b60 3 none], [Cond.methodLink RJ4 29 yJ5_append_cf1ce], [Cond.sameMethod "java/lang/AbstractStringBuilder" "java/lang/AbstractStringBuilder" "append" "(Ljava/lang/String;)Ljava/lang/AbstractStringBuilder;"], [Cond.instanceMethod yJ5_append_cf1ce], [Cond.code yJ5_append_cf1ce cJ5_append_cf1ce 3 (some (.object "java/lang/AbstractStringBuilder"))], [Cond.classLink RX6 97 RJ4], [Cond.methodLink RX6 99 yJ4_init_da8c8], [Cond.methodLink RX6 100 yJ4_append_15ec4], [Cond.instanceMethod yJ4_append_15ec4], [Cond.selects RJ4 yJ4_append_15ec4 yJ4_append_15ec4]]
noncomputable def tgc65 : List (List Cond) := [[Cond.code yJ4_append_15ec4 cJ4_append_15ec4 2 (some (.object "java/lang/StringBuilder"))], [Cond.methodLink RX6 106 yJ4_append_bf812], [Cond.methodLink RX6 111 yJ4_toString_0e30d], [Cond.methodLink RX6 115 yX6_rankNow], [Cond.instanceMethod yX6_rankNow], [Cond.selects RX6 yX6_rankNow yX6_rankNow], [Cond.code yX6_rankNow cX6_rankNow 5 (some .int)], [Cond.methodLink RX6 55 yX6_isFirst], [Cond.instanceMethod yX6_isFirst], [Cond.selects RX6 yX6_isFirst yX6_isFirst], [Cond.code yX6_isFirst cX6_isFirst 4 (some .boolean)], [Cond.methodLink RX6 122 yX6_kindsNow]]
noncomputable def tgc66 : List (List Cond) := [[Cond.instanceMethod yX6_kindsNow], [Cond.selects RX6 yX6_kindsNow yX6_kindsNow], [Cond.code yX6_kindsNow cX6_kindsNow 5 (some .int)], [Cond.methodLink RX6 118 yX6_isFirstOf], [Cond.instanceMethod yX6_isFirstOf], [Cond.selects RX6 yX6_isFirstOf yX6_isFirstOf], [Cond.code yX6_isFirstOf cX6_isFirstOf 5 (some .boolean)], [Cond.methodLink RX6 125 yJ0_isEmpty_aae02], [Cond.instanceMethod yJ0_isEmpty_aae02], [Cond.selects RJ0 yJ0_isEmpty_aae02 yJ0_isEmpty_aae02], [Cond.code yJ0_isEmpty_aae02 cJ0_isEmpty_aae02 1 (some .boolean)], [Cond.methodLink RX6 133 yX6_add]]
noncomputable def tgc67 : List (List Cond) := [[Cond.instanceMethod yX6_add], [Cond.selects RX6 yX6_add yX6_add], [Cond.code yX6_add cX6_add 4 none], [Cond.methodLink RX6 137 yX6_classesNow], [Cond.instanceMethod yX6_classesNow], [Cond.selects RX6 yX6_classesNow yX6_classesNow], [Cond.code yX6_classesNow cX6_classesNow 4 (some .int)], [Cond.methodLink RX6 58 yX6_bothNow], [Cond.instanceMethod yX6_bothNow], [Cond.selects RX6 yX6_bothNow yX6_bothNow], [Cond.code yX6_bothNow cX6_bothNow 7 (some .int)], [Cond.methodLink RX6 145 yX6_isRefined]]
noncomputable def tgc68 : List (List Cond) := [[Cond.instanceMethod yX6_isRefined], [Cond.selects RX6 yX6_isRefined yX6_isRefined], [Cond.code yX6_isRefined cX6_isRefined 5 (some .boolean)], [Cond.methodLink RX6 148 yX6_apartNow], [Cond.instanceMethod yX6_apartNow], [Cond.selects RX6 yX6_apartNow yX6_apartNow], [Cond.code yX6_apartNow cX6_apartNow 6 (some .int)], [Cond.constantLong RX6 157 (7842)], [Cond.constantLong RX6 159 (31)], [Cond.methodLink RX6 154 yX6_houseNow], [Cond.instanceMethod yX6_houseNow], [Cond.selects RX6 yX6_houseNow yX6_houseNow]]
noncomputable def tgc69 : List (List Cond) := [[Cond.code yX6_houseNow cX6_houseNow 8 (some .int)], [Cond.fieldLink RX6 151 "OrderlatticeModel" "knocks" "I"], [Cond.classLink RL 19 "java/lang/IndexOutOfBoundsException"], [Cond.classLink RL 21 "java/lang/IllegalArgumentException"], [Cond.methodLink RL 7 yX4_put], [Cond.instanceMethod yX4_put], [Cond.selects RX4 yX4_put yX4_put], [Cond.code yX4_put cX4_put 4 (some .int)], [Cond.methodLink RL 23 yX4_putAt], [Cond.instanceMethod yX4_putAt], [Cond.selects RX4 yX4_putAt yX4_putAt], [Cond.code yX4_putAt cX4_putAt 5 (some .int)]]
noncomputable def tgc70 : List (List Cond) := [[Cond.methodLink RL 27 yX4_fill], [Cond.instanceMethod yX4_fill], [Cond.selects RX4 yX4_fill yX4_fill], [Cond.code yX4_fill cX4_fill 7 (some .int)], [Cond.methodLink RL 31 yX4_drop], [Cond.instanceMethod yX4_drop], [Cond.selects RX4 yX4_drop yX4_drop], [Cond.code yX4_drop cX4_drop 5 (some .int)], [Cond.methodLink RL 38 yX4_copyRow], [Cond.instanceMethod yX4_copyRow], [Cond.selects RX4 yX4_copyRow yX4_copyRow], [Cond.code yX4_copyRow cX4_copyRow 5 (some .int)]]
noncomputable def tgc71 : List (List Cond) := [[Cond.methodLink RL 41 yX4_turnRow], [Cond.instanceMethod yX4_turnRow], [Cond.selects RX4 yX4_turnRow yX4_turnRow], [Cond.code yX4_turnRow cX4_turnRow 3 (some .int)], [Cond.methodLink RL 44 yX4_wheel], [Cond.instanceMethod yX4_wheel], [Cond.selects RX4 yX4_wheel yX4_wheel], [Cond.code yX4_wheel cX4_wheel 7 (some .int)], [Cond.methodLink RL 47 yX4_swap], [Cond.instanceMethod yX4_swap], [Cond.selects RX4 yX4_swap yX4_swap], [Cond.code yX4_swap cX4_swap 5 (some .int)]]
noncomputable def tgc72 : List (List Cond) := [[Cond.methodLink RL 50 yX4_sort], [Cond.instanceMethod yX4_sort], [Cond.selects RX4 yX4_sort yX4_sort], [Cond.code yX4_sort cX4_sort 6 (some .int)], [Cond.methodLink RL 53 yX4_sortPart], [Cond.instanceMethod yX4_sortPart], [Cond.selects RX4 yX4_sortPart yX4_sortPart], [Cond.code yX4_sortPart cX4_sortPart 7 (some .int)], [Cond.methodLink RL 56 yX4_isSorted], [Cond.instanceMethod yX4_isSorted], [Cond.selects RX4 yX4_isSorted yX4_isSorted], [Cond.code yX4_isSorted cX4_isSorted 4 (some .boolean)]]
noncomputable def tgc73 : List (List Cond) := [[Cond.methodLink RL 63 yX4_valueAt], [Cond.instanceMethod yX4_valueAt], [Cond.selects RX4 yX4_valueAt yX4_valueAt], [Cond.code yX4_valueAt cX4_valueAt 4 (some .int)], [Cond.methodLink RL 66 yX4_markAt], [Cond.instanceMethod yX4_markAt], [Cond.selects RX4 yX4_markAt yX4_markAt], [Cond.code yX4_markAt cX4_markAt 4 (some .int)], [Cond.methodLink RL 69 yX4_text], [Cond.instanceMethod yX4_text], [Cond.selects RX4 yX4_text yX4_text], [Cond.code yX4_text cX4_text 2 (some (.object "java/lang/String"))]]
noncomputable def tgc74 : List (List Cond) := [[Cond.methodLink RL 77 yX4_extreme], [Cond.instanceMethod yX4_extreme], [Cond.selects RX4 yX4_extreme yX4_extreme], [Cond.code yX4_extreme cX4_extreme 7 (some .int)], [Cond.methodLink RL 81 yX4_search], [Cond.instanceMethod yX4_search], [Cond.selects RX4 yX4_search yX4_search], [Cond.code yX4_search cX4_search 6 (some .int)], [Cond.methodLink RL 84 yX4_near], [Cond.instanceMethod yX4_near], [Cond.selects RX4 yX4_near yX4_near], [Cond.code yX4_near cX4_near 8 (some .int)]]
noncomputable def tgc75 : List (List Cond) := [[Cond.methodLink RL 87 yX4_kinds], [Cond.instanceMethod yX4_kinds], [Cond.selects RX4 yX4_kinds yX4_kinds], [Cond.code yX4_kinds cX4_kinds 4 (some .int)], [Cond.methodLink RL 90 yX4_ahead], [Cond.instanceMethod yX4_ahead], [Cond.selects RX4 yX4_ahead yX4_ahead], [Cond.code yX4_ahead cX4_ahead 6 (some .int)], [Cond.methodLink RL 93 yX4_groups], [Cond.instanceMethod yX4_groups], [Cond.selects RX4 yX4_groups yX4_groups], [Cond.code yX4_groups cX4_groups 4 (some (.object "java/lang/String"))]]
noncomputable def tgc76 : List (List Cond) := [[Cond.methodLink RL 97 yX4_ranks], [Cond.instanceMethod yX4_ranks], [Cond.selects RX4 yX4_ranks yX4_ranks], [Cond.code yX4_ranks cX4_ranks 9 (some (.object "java/lang/String"))], [Cond.methodLink RL 101 yX4_step], [Cond.instanceMethod yX4_step], [Cond.selects RX4 yX4_step yX4_step], [Cond.code yX4_step cX4_step 5 (some .int)], [Cond.methodLink RL 104 yX4_unstep], [Cond.instanceMethod yX4_unstep], [Cond.selects RX4 yX4_unstep yX4_unstep], [Cond.code yX4_unstep cX4_unstep 4 (some .int)]]
noncomputable def tgc77 : List (List Cond) := [[Cond.methodLink RL 107 yX4_wipe], [Cond.instanceMethod yX4_wipe], [Cond.selects RX4 yX4_wipe yX4_wipe], [Cond.code yX4_wipe cX4_wipe 4 (some .int)], [Cond.methodLink RL 110 yX4_copyOrder], [Cond.instanceMethod yX4_copyOrder], [Cond.selects RX4 yX4_copyOrder yX4_copyOrder], [Cond.code yX4_copyOrder cX4_copyOrder 5 (some .int)], [Cond.methodLink RL 113 yX4_turn], [Cond.instanceMethod yX4_turn], [Cond.selects RX4 yX4_turn yX4_turn], [Cond.code yX4_turn cX4_turn 3 (some .int)]]
noncomputable def tgc78 : List (List Cond) := [[Cond.methodLink RL 116 yX4_product], [Cond.instanceMethod yX4_product], [Cond.selects RX4 yX4_product yX4_product], [Cond.code yX4_product cX4_product 7 (some .int)], [Cond.methodLink RL 119 yX4_tellApart], [Cond.instanceMethod yX4_tellApart], [Cond.selects RX4 yX4_tellApart yX4_tellApart], [Cond.code yX4_tellApart cX4_tellApart 6 (some .int)], [Cond.methodLink RL 122 yX4_orderText], [Cond.instanceMethod yX4_orderText], [Cond.selects RX4 yX4_orderText yX4_orderText], [Cond.code yX4_orderText cX4_orderText 2 (some (.object "java/lang/String"))]]
noncomputable def tgc79 : List (List Cond) := [[Cond.methodLink RL 125 yX4_compare], [Cond.instanceMethod yX4_compare], [Cond.selects RX4 yX4_compare yX4_compare], [Cond.code yX4_compare cX4_compare 5 (some .int)], [Cond.methodLink RL 128 yX4_both], [Cond.instanceMethod yX4_both], [Cond.selects RX4 yX4_both yX4_both], [Cond.code yX4_both cX4_both 7 (some .int)], [Cond.methodLink RL 137 yX4_apart], [Cond.instanceMethod yX4_apart], [Cond.selects RX4 yX4_apart yX4_apart], [Cond.code yX4_apart cX4_apart 4 (some .int)]]
noncomputable def tgc80 : List (List Cond) := [[Cond.methodLink RL 143 yX4_rank], [Cond.instanceMethod yX4_rank], [Cond.selects RX4 yX4_rank yX4_rank], [Cond.code yX4_rank cX4_rank 4 (some .int)], [Cond.methodLink RL 146 yX4_keyOf], [Cond.instanceMethod yX4_keyOf], [Cond.selects RX4 yX4_keyOf yX4_keyOf], [Cond.code yX4_keyOf cX4_keyOf 3 (some .int)], [Cond.methodLink RL 149 yX4_house], [Cond.instanceMethod yX4_house], [Cond.selects RX4 yX4_house yX4_house], [Cond.code yX4_house cX4_house 2 (some .int)]]
noncomputable def tgc81 : List (List Cond) := [[Cond.classLink RL 8 RX4], [Cond.instantiable RX4 9], [Cond.classLink RL 153 RX6], [Cond.instantiable RX6 10], [Cond.classLink RL 14 RX5], [Cond.instantiable RX5 2], [Cond.initialized RX5], [Cond.methodLink RL 152 yX4_init], [Cond.instanceMethod yX4_init], [Cond.code yX4_init cX4_init 2 none], [Cond.methodLink RL 155 yX6_init], [Cond.instanceMethod yX6_init]]
noncomputable def tgc82 : List (List Cond) := [[Cond.code yX6_init cX6_init 1 none], [Cond.methodLink RX6 1 objectInit], [Cond.classLink RX6 9 "[[I"], [Cond.classLink RX6 24 "[[Z"], [Cond.instanceMethod yX5_init], [Cond.code yX5_init cX5_init 1 none], [Cond.methodLink RX5 1 objectInit], [Cond.methodLink RL 157 yL_put], [Cond.static yL_put], [Cond.initialized RL], [Cond.codeWith yL_put cL_put 5 (some .int) [(0, 11, 14, 19), (0, 11, 18, 21)]], [Cond.methodLink RL 162 yX6_put]]
noncomputable def tgc83 : List (List Cond) := [[Cond.instanceMethod yX6_put], [Cond.selects RX6 yX6_put yX6_put], [Cond.code yX6_put cX6_put 3 (some .int)], [Cond.methodLink RL 163 yL_putAt], [Cond.static yL_putAt], [Cond.codeWith yL_putAt cL_putAt 6 (some .int) [(0, 13, 16, 19), (0, 13, 20, 21)]], [Cond.methodLink RL 166 yX6_putAt], [Cond.instanceMethod yX6_putAt], [Cond.selects RX6 yX6_putAt yX6_putAt], [Cond.code yX6_putAt cX6_putAt 4 (some .int)], [Cond.methodLink RL 167 yL_fill], [Cond.static yL_fill]]
noncomputable def tgc84 : List (List Cond) := [[Cond.codeWith yL_fill cL_fill 7 (some .int) [(0, 15, 18, 19), (0, 15, 22, 21)]], [Cond.methodLink RL 170 yX6_fill], [Cond.instanceMethod yX6_fill], [Cond.selects RX6 yX6_fill yX6_fill], [Cond.code yX6_fill cX6_fill 6 (some .int)], [Cond.methodLink RL 171 yL_drop], [Cond.static yL_drop], [Cond.codeWith yL_drop cL_drop 5 (some .int) [(0, 11, 14, 19)]], [Cond.methodLink RL 173 yX6_drop], [Cond.instanceMethod yX6_drop], [Cond.selects RX6 yX6_drop yX6_drop], [Cond.code yX6_drop cX6_drop 5 (some .int)]]
noncomputable def tgc85 : List (List Cond) := [[Cond.methodLink RL 174 yL_clear], [Cond.static yL_clear], [Cond.codeWith yL_clear cL_clear 4 (some .int) [(0, 10, 13, 19)]], [Cond.methodLink RL 34 yX4_clear], [Cond.instanceMethod yX4_clear], [Cond.selects RX4 yX4_clear yX4_clear], [Cond.code yX4_clear cX4_clear 4 (some .int)], [Cond.methodLink RX4 98 yX2_empty], [Cond.methodLink RL 177 yX6_clear], [Cond.instanceMethod yX6_clear], [Cond.selects RX6 yX6_clear yX6_clear], [Cond.code yX6_clear cX6_clear 3 (some .int)]]
noncomputable def tgc86 : List (List Cond) := [[Cond.methodLink RL 178 yL_copyRow], [Cond.static yL_copyRow], [Cond.codeWith yL_copyRow cL_copyRow 5 (some .int) [(0, 11, 14, 19)]], [Cond.methodLink RL 180 yX6_copyRow], [Cond.instanceMethod yX6_copyRow], [Cond.selects RX6 yX6_copyRow yX6_copyRow], [Cond.code yX6_copyRow cX6_copyRow 4 (some .int)], [Cond.methodLink RL 181 yL_turnRow], [Cond.static yL_turnRow], [Cond.codeWith yL_turnRow cL_turnRow 4 (some .int) [(0, 10, 13, 19)]], [Cond.methodLink RL 183 yX6_turnRow], [Cond.instanceMethod yX6_turnRow]]
noncomputable def tgc87 : List (List Cond) := [[Cond.selects RX6 yX6_turnRow yX6_turnRow], [Cond.code yX6_turnRow cX6_turnRow 4 (some .int)], [Cond.methodLink RL 184 yL_wheel], [Cond.static yL_wheel], [Cond.codeWith yL_wheel cL_wheel 5 (some .int) [(0, 11, 14, 19)]], [Cond.methodLink RL 186 yX6_wheel], [Cond.instanceMethod yX6_wheel], [Cond.selects RX6 yX6_wheel yX6_wheel], [Cond.code yX6_wheel cX6_wheel 7 (some .int)], [Cond.methodLink RL 187 yL_swap], [Cond.static yL_swap], [Cond.codeWith yL_swap cL_swap 6 (some .int) [(0, 13, 16, 19)]]]
noncomputable def tgc88 : List (List Cond) := [[Cond.methodLink RL 189 yX6_swap], [Cond.instanceMethod yX6_swap], [Cond.selects RX6 yX6_swap yX6_swap], [Cond.code yX6_swap cX6_swap 4 (some .int)], [Cond.methodLink RL 190 yL_sort], [Cond.static yL_sort], [Cond.codeWith yL_sort cL_sort 6 (some .int) [(0, 13, 16, 19), (0, 13, 20, 21)]], [Cond.methodLink RL 192 yX6_sort], [Cond.instanceMethod yX6_sort], [Cond.selects RX6 yX6_sort yX6_sort], [Cond.code yX6_sort cX6_sort 4 (some .int)], [Cond.methodLink RL 193 yL_sortPart]]
noncomputable def tgc89 : List (List Cond) := [[Cond.static yL_sortPart], [Cond.codeWith yL_sortPart cL_sortPart 7 (some .int) [(0, 15, 18, 19), (0, 15, 22, 21)]], [Cond.methodLink RL 195 yX6_sortPart], [Cond.instanceMethod yX6_sortPart], [Cond.selects RX6 yX6_sortPart yX6_sortPart], [Cond.code yX6_sortPart cX6_sortPart 5 (some .int)], [Cond.methodLink RL 196 yL_isSorted], [Cond.static yL_isSorted], [Cond.codeWith yL_isSorted cL_isSorted 5 (some .int) [(0, 18, 21, 19)]], [Cond.methodLink RL 198 yX6_isSorted], [Cond.instanceMethod yX6_isSorted], [Cond.selects RX6 yX6_isSorted yX6_isSorted]]
noncomputable def tgc90 : List (List Cond) := [[Cond.code yX6_isSorted cX6_isSorted 3 (some .boolean)], [Cond.methodLink RL 199 yL_size], [Cond.static yL_size], [Cond.codeWith yL_size cL_size 4 (some .int) [(0, 10, 13, 19)]], [Cond.methodLink RL 60 yX4_size], [Cond.instanceMethod yX4_size], [Cond.selects RX4 yX4_size yX4_size], [Cond.code yX4_size cX4_size 2 (some .int)], [Cond.methodLink RL 201 yX6_size], [Cond.instanceMethod yX6_size], [Cond.selects RX6 yX6_size yX6_size], [Cond.code yX6_size cX6_size 2 (some .int)]]
noncomputable def tgc91 : List (List Cond) := [[Cond.methodLink RL 202 yL_valueAt], [Cond.static yL_valueAt], [Cond.codeWith yL_valueAt cL_valueAt 5 (some .int) [(0, 11, 14, 19)]], [Cond.methodLink RL 204 yX6_valueAt], [Cond.instanceMethod yX6_valueAt], [Cond.selects RX6 yX6_valueAt yX6_valueAt], [Cond.code yX6_valueAt cX6_valueAt 3 (some .int)], [Cond.methodLink RL 205 yL_markAt], [Cond.static yL_markAt], [Cond.codeWith yL_markAt cL_markAt 5 (some .int) [(0, 11, 14, 19)]], [Cond.methodLink RL 207 yX6_markAt], [Cond.instanceMethod yX6_markAt]]
noncomputable def tgc92 : List (List Cond) := [[Cond.selects RX6 yX6_markAt yX6_markAt], [Cond.code yX6_markAt cX6_markAt 3 (some .int)], [Cond.methodLink RL 208 yL_text], [Cond.static yL_text], [Cond.codeWith yL_text cL_text 4 (some .int) [(0, 9, 12, 19)]], [Cond.methodLink RL 210 yX6_text], [Cond.instanceMethod yX6_text], [Cond.selects RX6 yX6_text yX6_text], [Cond.code yX6_text cX6_text 4 (some (.object "java/lang/String"))], [Cond.methodLink RL 211 yL_extreme], [Cond.static yL_extreme], [Cond.codeWith yL_extreme cL_extreme 6 (some .int) [(0, 13, 16, 19)]]]
noncomputable def tgc93 : List (List Cond) := [[Cond.methodLink RL 214 yX6_extreme], [Cond.instanceMethod yX6_extreme], [Cond.selects RX6 yX6_extreme yX6_extreme], [Cond.code yX6_extreme cX6_extreme 7 (some .int)], [Cond.methodLink RL 215 yL_search], [Cond.static yL_search], [Cond.codeWith yL_search cL_search 6 (some .int) [(0, 13, 16, 19), (0, 13, 20, 21)]], [Cond.methodLink RL 217 yX6_search], [Cond.instanceMethod yX6_search], [Cond.selects RX6 yX6_search yX6_search], [Cond.code yX6_search cX6_search 7 (some .int)], [Cond.methodLink RL 218 yL_near]]
noncomputable def tgc94 : List (List Cond) := [[Cond.static yL_near], [Cond.codeWith yL_near cL_near 7 (some .int) [(0, 15, 18, 19), (0, 15, 22, 21)]], [Cond.methodLink RL 220 yX6_near], [Cond.instanceMethod yX6_near], [Cond.selects RX6 yX6_near yX6_near], [Cond.code yX6_near cX6_near 10 (some .int)], [Cond.methodLink RL 221 yL_kinds], [Cond.static yL_kinds], [Cond.codeWith yL_kinds cL_kinds 5 (some .int) [(0, 11, 14, 19)]], [Cond.methodLink RL 223 yX6_kinds], [Cond.instanceMethod yX6_kinds], [Cond.selects RX6 yX6_kinds yX6_kinds]]
noncomputable def tgc95 : List (List Cond) := [[Cond.code yX6_kinds cX6_kinds 3 (some .int)], [Cond.methodLink RL 224 yL_ahead], [Cond.static yL_ahead], [Cond.codeWith yL_ahead cL_ahead 6 (some .int) [(0, 13, 16, 19), (0, 13, 20, 21)]], [Cond.methodLink RL 226 yX6_ahead], [Cond.instanceMethod yX6_ahead], [Cond.selects RX6 yX6_ahead yX6_ahead], [Cond.code yX6_ahead cX6_ahead 6 (some .int)], [Cond.methodLink RL 227 yL_groups], [Cond.static yL_groups], [Cond.codeWith yL_groups cL_groups 5 (some .int) [(0, 10, 13, 19)]], [Cond.methodLink RL 229 yX6_groups]]
noncomputable def tgc96 : List (List Cond) := [[Cond.instanceMethod yX6_groups], [Cond.selects RX6 yX6_groups yX6_groups], [Cond.code yX6_groups cX6_groups 8 (some (.object "java/lang/String"))], [Cond.methodLink RL 230 yL_ranks], [Cond.static yL_ranks], [Cond.codeWith yL_ranks cL_ranks 6 (some .int) [(0, 12, 15, 19)]], [Cond.methodLink RL 232 yX6_ranks], [Cond.instanceMethod yX6_ranks], [Cond.selects RX6 yX6_ranks yX6_ranks], [Cond.code yX6_ranks cX6_ranks 8 (some (.object "java/lang/String"))], [Cond.methodLink RL 233 yL_step], [Cond.static yL_step]]
noncomputable def tgc97 : List (List Cond) := [[Cond.codeWith yL_step cL_step 6 (some .int) [(0, 13, 16, 19), (0, 13, 20, 21)]], [Cond.methodLink RL 235 yX6_step], [Cond.instanceMethod yX6_step], [Cond.selects RX6 yX6_step yX6_step], [Cond.code yX6_step cX6_step 4 (some .int)], [Cond.methodLink RL 236 yL_unstep], [Cond.static yL_unstep], [Cond.codeWith yL_unstep cL_unstep 4 (some .int) [(0, 10, 13, 19)]], [Cond.methodLink RL 238 yX6_unstep], [Cond.instanceMethod yX6_unstep], [Cond.selects RX6 yX6_unstep yX6_unstep], [Cond.code yX6_unstep cX6_unstep 2 (some .int)]]
noncomputable def tgc98 : List (List Cond) := [[Cond.methodLink RL 239 yL_wipe], [Cond.static yL_wipe], [Cond.codeWith yL_wipe cL_wipe 4 (some .int) [(0, 10, 13, 19)]], [Cond.methodLink RL 241 yX6_wipe], [Cond.instanceMethod yX6_wipe], [Cond.selects RX6 yX6_wipe yX6_wipe], [Cond.code yX6_wipe cX6_wipe 3 (some .int)], [Cond.methodLink RL 242 yL_copyOrder], [Cond.static yL_copyOrder], [Cond.codeWith yL_copyOrder cL_copyOrder 5 (some .int) [(0, 11, 14, 19)]], [Cond.methodLink RL 244 yX6_copyOrder], [Cond.instanceMethod yX6_copyOrder]]
noncomputable def tgc99 : List (List Cond) := [[Cond.selects RX6 yX6_copyOrder yX6_copyOrder], [Cond.code yX6_copyOrder cX6_copyOrder 4 (some .int)], [Cond.methodLink RL 245 yL_turn], [Cond.static yL_turn], [Cond.codeWith yL_turn cL_turn 4 (some .int) [(0, 10, 13, 19)]], [Cond.methodLink RL 247 yX6_turn], [Cond.instanceMethod yX6_turn], [Cond.selects RX6 yX6_turn yX6_turn], [Cond.code yX6_turn cX6_turn 4 (some .int)], [Cond.methodLink RL 248 yL_product], [Cond.static yL_product], [Cond.codeWith yL_product cL_product 6 (some .int) [(0, 13, 16, 19)]]]
noncomputable def tgc100 : List (List Cond) := [[Cond.methodLink RL 250 yX6_product], [Cond.instanceMethod yX6_product], [Cond.selects RX6 yX6_product yX6_product], [Cond.code yX6_product cX6_product 9 (some .int)], [Cond.methodLink RL 251 yL_tellApart], [Cond.static yL_tellApart], [Cond.codeWith yL_tellApart cL_tellApart 6 (some .int) [(0, 13, 16, 19), (0, 13, 20, 21)]], [Cond.methodLink RL 253 yX6_tellApart], [Cond.instanceMethod yX6_tellApart], [Cond.selects RX6 yX6_tellApart yX6_tellApart], [Cond.code yX6_tellApart cX6_tellApart 8 (some .int)], [Cond.methodLink RL 254 yL_orderText]]
noncomputable def tgc101 : List (List Cond) := [[Cond.static yL_orderText], [Cond.codeWith yL_orderText cL_orderText 4 (some .int) [(0, 9, 12, 19)]], [Cond.methodLink RL 256 yX6_orderText], [Cond.instanceMethod yX6_orderText], [Cond.selects RX6 yX6_orderText yX6_orderText], [Cond.code yX6_orderText cX6_orderText 4 (some (.object "java/lang/String"))], [Cond.methodLink RL 257 yL_compare], [Cond.static yL_compare], [Cond.codeWith yL_compare cL_compare 6 (some .int) [(0, 13, 16, 19), (0, 13, 20, 21)]], [Cond.methodLink RL 259 yX6_compare], [Cond.instanceMethod yX6_compare], [Cond.selects RX6 yX6_compare yX6_compare]]
noncomputable def tgc102 : List (List Cond) := [[Cond.code yX6_compare cX6_compare 4 (some .int)], [Cond.methodLink RL 260 yL_both], [Cond.static yL_both], [Cond.codeWith yL_both cL_both 7 (some .int) [(0, 15, 18, 19), (0, 15, 22, 21)]], [Cond.methodLink RL 262 yX6_both], [Cond.instanceMethod yX6_both], [Cond.selects RX6 yX6_both yX6_both], [Cond.code yX6_both cX6_both 5 (some .int)], [Cond.methodLink RL 263 yL_refines], [Cond.static yL_refines], [Cond.codeWith yL_refines cL_refines 5 (some .int) [(0, 18, 21, 19)]], [Cond.methodLink RL 131 yX4_refines]]
noncomputable def tgc103 : List (List Cond) := [[Cond.instanceMethod yX4_refines], [Cond.selects RX4 yX4_refines yX4_refines], [Cond.code yX4_refines cX4_refines 4 (some .boolean)], [Cond.methodLink RL 265 yX6_refines], [Cond.instanceMethod yX6_refines], [Cond.selects RX6 yX6_refines yX6_refines], [Cond.code yX6_refines cX6_refines 3 (some .boolean)], [Cond.methodLink RL 266 yL_areSame], [Cond.static yL_areSame], [Cond.codeWith yL_areSame cL_areSame 5 (some .int) [(0, 18, 21, 19)]], [Cond.methodLink RL 134 yX4_areSame], [Cond.instanceMethod yX4_areSame]]
noncomputable def tgc104 : List (List Cond) := [[Cond.selects RX4 yX4_areSame yX4_areSame], [Cond.code yX4_areSame cX4_areSame 4 (some .boolean)], [Cond.methodLink RX4 239 yX1_comparesLike], [Cond.instanceMethod yX1_comparesLike], [Cond.selects RX1 yX1_comparesLike yX1_comparesLike], [Cond.code yX1_comparesLike cX1_comparesLike 4 (some .boolean)], [Cond.methodLink RL 268 yX6_areSame], [Cond.instanceMethod yX6_areSame], [Cond.selects RX6 yX6_areSame yX6_areSame], [Cond.code yX6_areSame cX6_areSame 5 (some .boolean)], [Cond.methodLink RL 269 yL_apart], [Cond.static yL_apart]]
noncomputable def tgc105 : List (List Cond) := [[Cond.codeWith yL_apart cL_apart 5 (some .int) [(0, 11, 14, 19)]], [Cond.methodLink RL 271 yX6_apart], [Cond.instanceMethod yX6_apart], [Cond.selects RX6 yX6_apart yX6_apart], [Cond.code yX6_apart cX6_apart 3 (some .int)], [Cond.methodLink RL 272 yL_classes], [Cond.static yL_classes], [Cond.codeWith yL_classes cL_classes 4 (some .int) [(0, 10, 13, 19)]], [Cond.methodLink RL 140 yX4_classes], [Cond.instanceMethod yX4_classes], [Cond.selects RX4 yX4_classes yX4_classes], [Cond.code yX4_classes cX4_classes 2 (some .int)]]
noncomputable def tgc106 : List (List Cond) := [[Cond.methodLink RL 274 yX6_classes], [Cond.instanceMethod yX6_classes], [Cond.selects RX6 yX6_classes yX6_classes], [Cond.code yX6_classes cX6_classes 2 (some .int)], [Cond.methodLink RL 275 yL_rank], [Cond.static yL_rank], [Cond.codeWith yL_rank cL_rank 5 (some .int) [(0, 11, 14, 19), (0, 11, 18, 21)]], [Cond.methodLink RL 277 yX6_rank], [Cond.instanceMethod yX6_rank], [Cond.selects RX6 yX6_rank yX6_rank], [Cond.code yX6_rank cX6_rank 3 (some .int)], [Cond.methodLink RL 278 yX6_thrown]]
noncomputable def tgc107 : List (List Cond) := [[Cond.instanceMethod yX6_thrown], [Cond.selects RX6 yX6_thrown yX6_thrown], [Cond.code yX6_thrown cX6_thrown 1 (some .int)], [Cond.methodLink RL 282 yL_keyOf], [Cond.static yL_keyOf], [Cond.codeWith yL_keyOf cL_keyOf 5 (some .int) [(0, 11, 14, 21)]], [Cond.methodLink RL 284 yX6_keyOf], [Cond.instanceMethod yX6_keyOf], [Cond.selects RX6 yX6_keyOf yX6_keyOf], [Cond.code yX6_keyOf cX6_keyOf 3 (some .int)], [Cond.methodLink RL 285 yX4_knock], [Cond.instanceMethod yX4_knock]]
noncomputable def tgc108 : List (List Cond) := [[Cond.selects RX4 yX4_knock yX4_knock], [Cond.code yX4_knock cX4_knock 1 (some .int)], [Cond.methodLink RL 288 yX6_knock], [Cond.instanceMethod yX6_knock], [Cond.selects RX6 yX6_knock yX6_knock], [Cond.code yX6_knock cX6_knock 1 (some .int)], [Cond.methodLink RL 289 yL_house], [Cond.static yL_house], [Cond.codeWith yL_house cL_house 4 (some .int) [(0, 10, 13, 21)]], [Cond.methodLink RL 291 yX6_house], [Cond.instanceMethod yX6_house], [Cond.selects RX6 yX6_house yX6_house]]
noncomputable def tgc109 : List (List Cond) := [[Cond.code yX6_house cX6_house 2 (some .int)], [Cond.methodLink RL 292 yX4_isSound], [Cond.methodLink RL 296 yX6_isSound], [Cond.instanceMethod yX6_isSound], [Cond.selects RX6 yX6_isSound yX6_isSound], [Cond.code yX6_isSound cX6_isSound 1 (some .boolean)], [Cond.methodLink RL 297 yX4_digest], [Cond.instanceMethod yX4_digest], [Cond.selects RX4 yX4_digest yX4_digest], [Cond.code yX4_digest cX4_digest 4 (some .long)], [Cond.methodLink RL 301 yX6_digest], [Cond.instanceMethod yX6_digest]]
noncomputable def tgc110 : List (List Cond) := [[Cond.selects RX6 yX6_digest yX6_digest], [Cond.code yX6_digest cX6_digest 5 (some .long)], u_ws RX2 TX2 3, u_ws RX3 TX3 1, u_ws RX1 TX1 6, u_ws RX0 TX0 4, u_ws RJ4 TJ4 4, u_ws RJ0 TJ0 4, u_ws RX4 TX4 9, (vx_atS RX4 306 "java/lang/IndexOutOfBoundsException" ["java/lang/RuntimeException", "java/lang/Exception"]).filter goodWord, (vx_atS RX4 140 "java/lang/IllegalArgumentException" ["java/lang/RuntimeException", "java/lang/Exception"]).filter goodWord, u_ws RX6 TX6 10]
noncomputable def tgc111 : List (List Cond) := [u_ws RX5 TX5 2]
noncomputable def tgd0 : List (List (List Cond)) := [tgc0, tgc1, tgc2, tgc3, tgc4, tgc5, tgc6, tgc7, tgc8, tgc9, tgc10, tgc11]
noncomputable def tgd1 : List (List (List Cond)) := [tgc12, tgc13, tgc14, tgc15, tgc16, tgc17, tgc18, tgc19, tgc20, tgc21, tgc22, tgc23]
noncomputable def tgd2 : List (List (List Cond)) := [tgc24, tgc25, tgc26, tgc27, tgc28, tgc29, tgc30, tgc31, tgc32, tgc33, tgc34, tgc35]
noncomputable def tgd3 : List (List (List Cond)) := [tgc36, tgc37, tgc38, tgc39, tgc40, tgc41, tgc42, tgc43, tgc44, tgc45, tgc46, tgc47]
noncomputable def tgd4 : List (List (List Cond)) := [tgc48, tgc49, tgc50, tgc51, tgc52, tgc53, tgc54, tgc55, tgc56, tgc57, tgc58, tgc59]
noncomputable def tgd5 : List (List (List Cond)) := [tgc60, tgc61, tgc62, tgc63, tgc64, tgc65, tgc66, tgc67, tgc68, tgc69, tgc70, tgc71]
noncomputable def tgd6 : List (List (List Cond)) := [tgc72, tgc73, tgc74, tgc75, tgc76, tgc77, tgc78, tgc79, tgc80, tgc81, tgc82, tgc83]
noncomputable def tgd7 : List (List (List Cond)) := [tgc84, tgc85, tgc86, tgc87, tgc88, tgc89, tgc90, tgc91, tgc92, tgc93, tgc94, tgc95]
noncomputable def tgd8 : List (List (List Cond)) := [tgc96, tgc97, tgc98, tgc99, tgc100, tgc101, tgc102, tgc103, tgc104, tgc105, tgc106, tgc107]
noncomputable def tgd9 : List (List (List Cond)) := [tgc108, tgc109, tgc110, tgc111]
noncomputable def tgT : List (List (List (List Cond))) := [tgd0, tgd1, tgd2, tgd3, tgd4, tgd5, tgd6, tgd7, tgd8, tgd9]
def tgNth {α : Type} (d : α) : List α → Nat → α
  | [], _ => d
  | a :: _, 0 => a
  | _ :: l, n + 1 => tgNth d l n
theorem tgNth_all {α : Type} {P : α → Prop} {d : α} (hd : P d) : ∀ (l : List α) (n : Nat), (∀ a ∈ l, P a) → P (tgNth d l n)
  | [], _, _ => hd
  | a :: _, 0, h => h a List.mem_cons_self
  | _ :: l, n + 1, h => tgNth_all hd l n (fun a ha => h a (List.mem_cons_of_mem _ ha))
noncomputable def tg (i : Nat) : List Cond := tgNth [] (tgNth [] (tgNth [] tgT (i / 144)) (i / 12 % 12)) (i % 12)
theorem tg_all : tgT.all (fun a => a.all (fun b => b.all (fun c => c.all goodWord))) = true := by decide +kernel
theorem tg_good {i : Nat} {w : Cond} (h : w ∈ tg i) : (w.onTables && w.keeps) = true ∨ ∃ ty, w = .arrayClass ty := by
  refine good_of_word ?_
  have h0 : ∀ c : List Cond, (c = []) → ∀ w ∈ c, goodWord w = true := fun c e w hw => by rw [e] at hw; exact absurd hw List.not_mem_nil
  have h3 : ∀ a ∈ tgT, ∀ b ∈ a, ∀ c ∈ b, ∀ w ∈ c, goodWord w = true := fun a ha b hb c hc w hw => List.all_eq_true.mp (List.all_eq_true.mp (List.all_eq_true.mp (List.all_eq_true.mp tg_all a ha) b hb) c hc) w hw
  have h2 := tgNth_all (P := fun a => ∀ b ∈ a, ∀ c ∈ b, ∀ w ∈ c, goodWord w = true) (d := []) (fun _ h => absurd h List.not_mem_nil) tgT (i / 144) h3
  have h1 := tgNth_all (P := fun b => ∀ c ∈ b, ∀ w ∈ c, goodWord w = true) (d := []) (fun _ h => absurd h List.not_mem_nil) _ (i / 12 % 12) h2
  exact tgNth_all (P := fun c => ∀ w ∈ c, goodWord w = true) (d := []) (fun _ h => absurd h List.not_mem_nil) _ (i % 12) h1 w h
def dcB (cc : ByteArray) (q : Nat × (Jvm.ClassFile.Instr × Nat)) : Bool := decide (decode cc q.1 = .ok q.2)
theorem dcB_ok {cc : ByteArray} {pc : Nat} {b : Jvm.ClassFile.Instr × Nat} (h : dcB cc (pc, b) = true) : decode cc pc = .ok b := by
  unfold dcB at h
  dsimp only at h
  exact of_decide_eq_true h
theorem dget {cc : ByteArray} {l : List (Nat × (Jvm.ClassFile.Instr × Nat))} (h : l.all (dcB cc) = true) (i : Nat) {pc : Nat} {b : Jvm.ClassFile.Instr × Nat} (e : l[i]? = some (pc, b)) : decode cc pc = .ok b := dcB_ok (List.all_eq_true.mp h (pc, b) (List.mem_of_getElem? e))
/-- rising lists: the one in the other -/
def tgSub : List Nat → List Nat → Bool
  | [], _ => true
  | _ :: _, [] => false
  | a :: as, b :: bs => bif Nat.beq a b then tgSub as bs else tgSub (a :: as) bs
theorem tgSub_mem : ∀ (y x : List Nat), tgSub x y = true → ∀ i ∈ x, i ∈ y
  | _, [], _, _, hi => absurd hi List.not_mem_nil
  | [], _ :: _, h, _, _ => absurd h Bool.false_ne_true
  | b :: bs, a :: as, h, i, hi => by
    have h9 : (bif Nat.beq a b then tgSub as bs else tgSub (a :: as) bs) = true := h
    cases e : Nat.beq a b with
    | true =>
      rw [e] at h9
      rcases List.mem_cons.mp hi with h1 | h1
      · rw [h1, Nat.eq_of_beq_eq_true e]; exact List.mem_cons_self
      · exact List.mem_cons_of_mem _ (tgSub_mem bs as h9 i h1)
    | false =>
      rw [e] at h9
      exact List.mem_cons_of_mem _ (tgSub_mem bs (a :: as) h9 i hi)
theorem tgMem {bi : List Nat} {i : Nat} {w : Cond} (h : i ∈ bi) (hw : w ∈ tg i) : w ∈ bi.flatMap tg := List.mem_flatMap.mpr ⟨i, h, hw⟩
/-- a word in a list -/
theorem tm {bh w : Cond} {bi : List Nat} (i : Nat) (h : bi.elem i = true) (e : tg i = [w]) : w ∈ bh :: bi.flatMap tg := List.mem_cons_of_mem _ (tgMem (List.elem_iff.mp h) (by rw [e]; exact List.mem_singleton.mpr rfl))
/-- a block in a list -/
theorem tu {bh : Cond} {l : List Cond} {bi : List Nat} (i : Nat) (h : bi.elem i = true) (e : tg i = l) : ∀ w ∈ l, w ∈ bh :: bi.flatMap tg := fun _ hw => List.mem_cons_of_mem _ (tgMem (List.elem_iff.mp h) (by rw [e]; exact hw))
theorem tgIn {bh : Cond} {l : List Cond} {bi : List Nat} (wi : List Nat) (h : wi.all (fun i => bi.elem i) = true) (e : wi.flatMap tg = l) : GoodIn (bh :: bi.flatMap tg) l := fun w hw => by
  rw [← e] at hw
  obtain ⟨i, hi, hw⟩ := List.mem_flatMap.mp hw
  exact ⟨List.mem_cons_of_mem _ (tgMem (List.elem_iff.mp (List.all_eq_true.mp h i hi)) hw), tg_good hw⟩
/-- a method's words in its caller's -/
theorem tgCall {bh wh : Cond} {bi wi : List Nat} (i : Nat) (e : tg i = [wh]) (h : (bi.elem i && tgSub wi bi) = true) : GoodIn (bh :: bi.flatMap tg) (wh :: wi.flatMap tg) := fun w hw => by
  rw [Bool.and_eq_true] at h
  rcases List.mem_cons.mp hw with h1 | h1
  · have h2 : w ∈ tg i := by rw [e, h1]; exact List.mem_singleton.mpr rfl
    exact ⟨List.mem_cons_of_mem _ (tgMem (List.elem_iff.mp h.1) h2), tg_good h2⟩
  · obtain ⟨j, hj, hw⟩ := List.mem_flatMap.mp h1
    exact ⟨List.mem_cons_of_mem _ (tgMem (tgSub_mem _ _ h.2 j hj) hw), tg_good hw⟩
noncomputable def wsL_R : List Cond := (List.range 1333).flatMap tg
theorem tgLaw {i : Nat} (h : Nat.blt i 1333 = true) {w : Cond} (hw : w ∈ tg i) : w ∈ wsL_R := List.mem_flatMap.mpr ⟨i, List.mem_range.mpr (Nat.le_of_ble_eq_true h), hw⟩
theorem tu0 {l : List Cond} (i : Nat) (h : Nat.blt i 1333 = true) (e : tg i = l) : ∀ w ∈ l, w ∈ wsL_R := fun _ hw => tgLaw h (by rw [e]; exact hw)
theorem tgIn0 {l : List Cond} (wi : List Nat) (h : wi.all (fun i => Nat.blt i 1333) = true) (e : wi.flatMap tg = l) : GoodIn wsL_R l := fun w hw => by
  rw [← e] at hw
  obtain ⟨i, hi, hw⟩ := List.mem_flatMap.mp hw
  exact ⟨tgLaw (List.all_eq_true.mp h i hi) hw, tg_good hw⟩
theorem tgCall0 {wh : Cond} {wi : List Nat} (i : Nat) (e : tg i = [wh]) (h : (i :: wi).all (fun i => Nat.blt i 1333) = true) : GoodIn wsL_R (wh :: wi.flatMap tg) := by
  have e2 : (i :: wi).flatMap tg = wh :: wi.flatMap tg := by rw [List.flatMap_cons, e]; rfl
  exact tgIn0 (i :: wi) h e2
theorem tgInlt {P : Nat → Prop} {n : Nat} (h : ∀ j, j < n → P j) (hn : P n) : ∀ j, j < n + 1 → P j := fun j hj => by
  rcases Nat.lt_or_eq_of_le (Nat.le_of_lt_succ hj) with h1 | h1
  · exact h j h1
  · rw [h1]; exact hn
noncomputable def wsX2_init : List Cond := Cond.code yX2_init cX2_init 1 none :: ([1, 2, 23, 24, 25, 26, 27, 1322] : List Nat).flatMap tg
noncomputable def wsX3_init : List Cond := Cond.code yX3_init cX3_init 1 none :: ([1, 2, 8, 9, 18, 19, 20, 21, 22, 23, 24, 25, 26, 27, 1322, 1323] : List Nat).flatMap tg
noncomputable def wsX1_init : List Cond := Cond.code yX1_init cX1_init 1 none :: ([1, 2, 24, 30, 31, 32, 33, 34, 35, 36, 37, 38, 1324] : List Nat).flatMap tg
noncomputable def wsX0_init : List Cond := Cond.code yX0_init cX0_init 1 none :: ([0, 1, 2, 3, 4, 5, 6, 7, 8, 9, 10, 11, 12, 13, 14, 15, 16, 17, 18, 19, 20, 21, 22, 23, 24, 25, 26, 27, 28, 29, 30, 31, 32, 33, 34, 35, 36, 37, 38, 1322, 1323, 1324, 1325] : List Nat).flatMap tg
noncomputable def wsX1_compared : List Cond := Cond.code yX1_compared cX1_compared 7 (some .int) :: ([35, 1324] : List Nat).flatMap tg
noncomputable def wsX1_isFinerThan : List Cond := Cond.code yX1_isFinerThan cX1_isFinerThan 4 (some .boolean) :: ([14, 35, 91, 92, 93, 137, 1324] : List Nat).flatMap tg
noncomputable def wsX1_length : List Cond := Cond.code yX1_length cX1_length 1 (some .int) :: ([37, 1324] : List Nat).flatMap tg
noncomputable def wsX1_keyOn : List Cond := Cond.code yX1_keyOn cX1_keyOn 2 (some .int) :: ([31, 1324] : List Nat).flatMap tg
noncomputable def wsX1_isDownOn : List Cond := Cond.code yX1_isDownOn cX1_isDownOn 2 (some .boolean) :: ([33, 1324] : List Nat).flatMap tg
noncomputable def wsX1_addStep : List Cond := Cond.code yX1_addStep cX1_addStep 3 none :: ([31, 33, 37, 1324] : List Nat).flatMap tg
noncomputable def wsX1_addSteps : List Cond := Cond.code yX1_addSteps cX1_addSteps 4 none :: ([14, 31, 33, 37, 70, 71, 72, 73, 74, 75, 76, 77, 78, 79, 80, 81, 1324] : List Nat).flatMap tg
noncomputable def wsJ6_bitCount_0f7a4 : List Cond := Cond.code yJ6_bitCount_0f7a4 cJ6_bitCount_0f7a4 1 (some .int) :: ([47, 48, 49] : List Nat).flatMap tg
noncomputable def wsX1_numberBy : List Cond := Cond.code yX1_numberBy cX1_numberBy 2 (some .int) :: ([43, 44, 45, 46, 47, 48, 49] : List Nat).flatMap tg
noncomputable def wsX1_isFirstOfClass : List Cond := Cond.code yX1_isFirstOfClass cX1_isFirstOfClass 3 (some .boolean) :: ([35, 1324] : List Nat).flatMap tg
noncomputable def wsX1_pushBackBehind : List Cond := Cond.code yX1_pushBackBehind cX1_pushBackBehind 4 none :: ([35, 36, 1324] : List Nat).flatMap tg
noncomputable def wsX1_rankAll : List Cond := Cond.code yX1_rankAll cX1_rankAll 2 none :: ([14, 35, 36, 38, 54, 55, 56, 57, 58, 59, 60, 61, 1324] : List Nat).flatMap tg
noncomputable def wsX1_settle : List Cond := Cond.code yX1_settle cX1_settle 6 none :: ([14, 31, 33, 35, 36, 37, 38, 39, 40, 41, 42, 43, 44, 45, 46, 47, 48, 49, 50, 51, 52, 53, 54, 55, 56, 57, 58, 59, 60, 61, 1324] : List Nat).flatMap tg
noncomputable def wsX1_becomeProductOf : List Cond := Cond.code yX1_becomeProductOf cX1_becomeProductOf 3 none :: ([14, 31, 33, 35, 36, 37, 38, 39, 40, 41, 42, 43, 44, 45, 46, 47, 48, 49, 50, 51, 52, 53, 54, 55, 56, 57, 58, 59, 60, 61, 62, 63, 64, 65, 66, 67, 68, 69, 70, 71, 72, 73, 74, 75, 76, 77, 78, 79, 80, 81, 82, 83, 84, 85, 1324] : List Nat).flatMap tg
noncomputable def wsX2_append : List Cond := Cond.code yX2_append cX2_append 3 none :: ([25, 26, 27, 1322] : List Nat).flatMap tg
noncomputable def wsX2_becomeAllValues : List Cond := Cond.code yX2_becomeAllValues cX2_becomeAllValues 2 none :: ([9, 25, 26, 27, 111, 112, 113, 114, 1322] : List Nat).flatMap tg
noncomputable def wsX2_length : List Cond := Cond.code yX2_length cX2_length 1 (some .int) :: ([27, 1322] : List Nat).flatMap tg
noncomputable def wsX2_valueOn : List Cond := Cond.code yX2_valueOn cX2_valueOn 2 (some .int) :: ([25, 1322] : List Nat).flatMap tg
noncomputable def wsX2_markOn : List Cond := Cond.code yX2_markOn cX2_markOn 2 (some .int) :: ([26, 1322] : List Nat).flatMap tg
noncomputable def wsX2_replace : List Cond := Cond.code yX2_replace cX2_replace 4 none :: ([25, 26, 1322] : List Nat).flatMap tg
noncomputable def wsX2_exchange : List Cond := Cond.code yX2_exchange cX2_exchange 5 none :: ([9, 25, 26, 87, 88, 89, 98, 99, 100, 101, 102, 103, 104, 105, 106, 1322] : List Nat).flatMap tg
noncomputable def wsX3_insertEach : List Cond := Cond.code yX3_insertEach cX3_insertEach 7 none :: ([9, 14, 25, 26, 35, 86, 87, 88, 89, 90, 91, 92, 93, 94, 95, 96, 97, 98, 99, 100, 101, 102, 103, 104, 105, 106, 1322, 1324] : List Nat).flatMap tg
noncomputable def wsX2_isInSequenceBy : List Cond := Cond.code yX2_isInSequenceBy cX2_isInSequenceBy 3 (some .boolean) :: ([9, 14, 25, 27, 35, 87, 88, 89, 91, 92, 93, 98, 127, 1322, 1324] : List Nat).flatMap tg
noncomputable def wsX0_areAlikeAlike : List Cond := Cond.code yX0_areAlikeAlike cX0_areAlikeAlike 4 (some .boolean) :: ([14, 35, 91, 92, 93, 132, 1324] : List Nat).flatMap tg
noncomputable def wsX0_isFinerBySorting : List Cond := Cond.code yX0_isFinerBySorting cX0_isFinerBySorting 3 (some .boolean) :: ([5, 6, 9, 10, 14, 25, 26, 27, 35, 86, 87, 88, 89, 90, 91, 92, 93, 94, 95, 96, 97, 98, 99, 100, 101, 102, 103, 104, 105, 106, 107, 108, 109, 110, 111, 112, 113, 114, 115, 116, 117, 118, 119, 120, 121, 122, 123, 124, 125, 126, 127, 128, 129, 130, 131, 132, 1322, 1324, 1325] : List Nat).flatMap tg
noncomputable def wsX1_classCount : List Cond := Cond.code yX1_classCount cX1_classCount 1 (some .int) :: ([38, 1324] : List Nat).flatMap tg
noncomputable def wsX0_isRefiningSound : List Cond := Cond.code yX0_isRefiningSound cX0_isRefiningSound 4 (some .boolean) :: ([5, 6, 9, 10, 14, 15, 25, 26, 27, 31, 33, 35, 36, 37, 38, 39, 40, 41, 42, 43, 44, 45, 46, 47, 48, 49, 50, 51, 52, 53, 54, 55, 56, 57, 58, 59, 60, 61, 62, 63, 64, 65, 66, 67, 68, 69, 70, 71, 72, 73, 74, 75, 76, 77, 78, 79, 80, 81, 82, 83, 84, 85, 86, 87, 88, 89, 90, 91, 92, 93, 94, 95, 96, 97, 98, 99, 100, 101, 102, 103, 104, 105, 106, 107, 108, 109, 110, 111, 112, 113, 114, 115, 116, 117, 118, 119, 120, 121, 122, 123, 124, 125, 126, 127, 128, 129, 130, 131, 132, 133, 134, 135, 136, 137, 138, 139, 140, 141, 142, 143, 144, 145, 146, 147, 148, 149, 1322, 1324, 1325] : List Nat).flatMap tg
noncomputable def wsX2_becomeCopyOf : List Cond := Cond.code yX2_becomeCopyOf cX2_becomeCopyOf 4 none :: ([9, 25, 26, 27, 87, 88, 89, 98, 99, 100, 101, 102, 103, 104, 105, 106, 116, 117, 118, 169, 1322] : List Nat).flatMap tg
noncomputable def wsX2_empty : List Cond := Cond.code yX2_empty cX2_empty 1 none :: ([27, 1322] : List Nat).flatMap tg
noncomputable def wsX3_mergeTwo : List Cond := Cond.code yX3_mergeTwo cX3_mergeTwo 11 none :: ([9, 14, 20, 25, 26, 27, 35, 86, 87, 88, 89, 90, 91, 92, 93, 100, 101, 102, 112, 113, 114, 163, 164, 1322, 1323, 1324] : List Nat).flatMap tg
noncomputable def wsX3_mergeRuns : List Cond := Cond.code yX3_mergeRuns cX3_mergeRuns 7 none :: ([5, 9, 14, 20, 25, 26, 27, 35, 86, 87, 88, 89, 90, 91, 92, 93, 98, 99, 100, 101, 102, 103, 104, 105, 106, 112, 113, 114, 116, 117, 118, 150, 151, 152, 153, 154, 155, 156, 157, 158, 159, 160, 161, 162, 163, 164, 165, 166, 167, 168, 169, 1322, 1323, 1324] : List Nat).flatMap tg
noncomputable def wsX1_rankOf : List Cond := Cond.code yX1_rankOf cX1_rankOf 2 (some .int) :: ([36, 1324] : List Nat).flatMap tg
noncomputable def wsX3_gatherByRank : List Cond := Cond.code yX3_gatherByRank cX3_gatherByRank 5 none :: ([9, 14, 20, 25, 26, 27, 36, 38, 86, 87, 88, 89, 98, 99, 100, 101, 102, 103, 104, 105, 106, 112, 113, 114, 116, 117, 118, 147, 148, 149, 154, 155, 156, 157, 158, 163, 164, 165, 166, 167, 168, 169, 170, 171, 172, 173, 174, 1322, 1323, 1324] : List Nat).flatMap tg
noncomputable def wsX3_arrangeAll : List Cond := Cond.code yX3_arrangeAll cX3_arrangeAll 4 none :: ([5, 9, 14, 20, 25, 26, 27, 35, 36, 38, 86, 87, 88, 89, 90, 91, 92, 93, 94, 95, 96, 97, 98, 99, 100, 101, 102, 103, 104, 105, 106, 112, 113, 114, 116, 117, 118, 120, 121, 122, 147, 148, 149, 150, 151, 152, 153, 154, 155, 156, 157, 158, 159, 160, 161, 162, 163, 164, 165, 166, 167, 168, 169, 170, 171, 172, 173, 174, 175, 176, 177, 178, 179, 180, 181, 182, 183, 1322, 1323, 1324] : List Nat).flatMap tg
noncomputable def wsX2_isLike : List Cond := Cond.code yX2_isLike cX2_isLike 3 (some .boolean) :: ([9, 25, 26, 27, 87, 88, 89, 98, 99, 100, 101, 102, 116, 117, 118, 169, 1322] : List Nat).flatMap tg
noncomputable def wsX0_isProductAlike : List Cond := Cond.code yX0_isProductAlike cX0_isProductAlike 4 (some .boolean) :: ([5, 6, 9, 10, 11, 14, 15, 20, 25, 26, 27, 31, 33, 35, 36, 37, 38, 39, 40, 41, 42, 43, 44, 45, 46, 47, 48, 49, 50, 51, 52, 53, 54, 55, 56, 57, 58, 59, 60, 61, 62, 63, 64, 65, 66, 67, 68, 69, 70, 71, 72, 73, 74, 75, 76, 77, 78, 79, 80, 81, 82, 83, 84, 85, 86, 87, 88, 89, 90, 91, 92, 93, 94, 95, 96, 97, 98, 99, 100, 101, 102, 103, 104, 105, 106, 112, 113, 114, 116, 117, 118, 120, 121, 122, 138, 139, 140, 141, 147, 148, 149, 150, 151, 152, 153, 154, 155, 156, 157, 158, 159, 160, 161, 162, 163, 164, 165, 166, 167, 168, 169, 170, 171, 172, 173, 174, 175, 176, 177, 178, 179, 180, 181, 182, 183, 184, 185, 186, 187, 188, 189, 190, 191, 192, 1322, 1323, 1324, 1325] : List Nat).flatMap tg
noncomputable def wsX0_areSignsTurned : List Cond := Cond.code yX0_areSignsTurned cX0_areSignsTurned 4 (some .boolean) :: ([14, 35, 91, 92, 93, 132, 1324] : List Nat).flatMap tg
noncomputable def wsX0_isRankOfSome : List Cond := Cond.code yX0_isRankOfSome cX0_isRankOfSome 3 (some .boolean) :: ([14, 36, 172, 173, 174, 211, 1324] : List Nat).flatMap tg
noncomputable def wsX0_areRanksAsClasses : List Cond := Cond.code yX0_areRanksAsClasses cX0_areRanksAsClasses 4 (some .boolean) :: ([14, 36, 38, 130, 146, 147, 148, 149, 172, 173, 174, 211, 624, 625, 626, 1324] : List Nat).flatMap tg
noncomputable def wsX0_areWaysAgreed : List Cond := Cond.code yX0_areWaysAgreed cX0_areWaysAgreed 4 (some .boolean) :: ([5, 6, 9, 10, 11, 14, 20, 25, 26, 27, 35, 36, 38, 86, 87, 88, 89, 90, 91, 92, 93, 94, 95, 96, 97, 98, 99, 100, 101, 102, 103, 104, 105, 106, 112, 113, 114, 116, 117, 118, 120, 121, 122, 147, 148, 149, 150, 151, 152, 153, 154, 155, 156, 157, 158, 159, 160, 161, 162, 163, 164, 165, 166, 167, 168, 169, 170, 171, 172, 173, 174, 175, 176, 177, 178, 179, 180, 181, 182, 183, 184, 185, 186, 187, 188, 189, 190, 191, 192, 1322, 1323, 1324, 1325] : List Nat).flatMap tg
noncomputable def wsX0_staysSorted : List Cond := Cond.code yX0_staysSorted cX0_staysSorted 3 (some .boolean) :: ([5, 6, 9, 10, 11, 14, 20, 25, 26, 27, 35, 36, 38, 86, 87, 88, 89, 90, 91, 92, 93, 94, 95, 96, 97, 98, 99, 100, 101, 102, 103, 104, 105, 106, 112, 113, 114, 116, 117, 118, 120, 121, 122, 123, 124, 125, 126, 127, 147, 148, 149, 150, 151, 152, 153, 154, 155, 156, 157, 158, 159, 160, 161, 162, 163, 164, 165, 166, 167, 168, 169, 170, 171, 172, 173, 174, 175, 176, 177, 178, 179, 180, 181, 182, 183, 184, 185, 186, 187, 188, 189, 190, 191, 192, 1322, 1323, 1324, 1325] : List Nat).flatMap tg
noncomputable def wsX2_reverse : List Cond := Cond.code yX2_reverse cX2_reverse 3 none :: ([9, 25, 26, 27, 87, 88, 89, 95, 96, 97, 98, 99, 100, 101, 102, 103, 104, 105, 106, 197, 1322] : List Nat).flatMap tg
noncomputable def wsX1_becomeCopyOf : List Cond := Cond.code yX1_becomeCopyOf cX1_becomeCopyOf 3 none :: ([14, 31, 33, 35, 36, 37, 38, 39, 40, 41, 42, 43, 44, 45, 46, 47, 48, 49, 50, 51, 52, 53, 54, 55, 56, 57, 58, 59, 60, 61, 62, 63, 64, 65, 66, 67, 68, 69, 70, 71, 72, 73, 74, 75, 76, 77, 78, 79, 80, 81, 82, 83, 84, 85, 1324] : List Nat).flatMap tg
noncomputable def wsX1_reverse : List Cond := Cond.code yX1_reverse cX1_reverse 2 none :: ([14, 31, 33, 35, 36, 37, 38, 39, 40, 41, 42, 43, 44, 45, 46, 47, 48, 49, 50, 51, 52, 53, 54, 55, 56, 57, 58, 59, 60, 61, 82, 83, 84, 85, 1324] : List Nat).flatMap tg
noncomputable def wsX0_isTurnedAlike : List Cond := Cond.code yX0_isTurnedAlike cX0_isTurnedAlike 3 (some .boolean) :: ([5, 6, 9, 10, 11, 14, 15, 20, 25, 26, 27, 31, 33, 35, 36, 37, 38, 39, 40, 41, 42, 43, 44, 45, 46, 47, 48, 49, 50, 51, 52, 53, 54, 55, 56, 57, 58, 59, 60, 61, 62, 63, 64, 65, 66, 67, 68, 69, 70, 71, 72, 73, 74, 75, 76, 77, 78, 79, 80, 81, 82, 83, 84, 85, 86, 87, 88, 89, 90, 91, 92, 93, 94, 95, 96, 97, 98, 99, 100, 101, 102, 103, 104, 105, 106, 112, 113, 114, 116, 117, 118, 120, 121, 122, 147, 148, 149, 150, 151, 152, 153, 154, 155, 156, 157, 158, 159, 160, 161, 162, 163, 164, 165, 166, 167, 168, 169, 170, 171, 172, 173, 174, 175, 176, 177, 178, 179, 180, 181, 182, 183, 184, 185, 186, 187, 188, 189, 190, 191, 192, 193, 194, 195, 196, 197, 198, 199, 200, 201, 202, 203, 204, 205, 1322, 1323, 1324, 1325] : List Nat).flatMap tg
noncomputable def wsX2_firstPlaceBy : List Cond := Cond.code yX2_firstPlaceBy cX2_firstPlaceBy 4 (some .int) :: ([9, 14, 25, 27, 35, 87, 88, 89, 91, 92, 93, 98, 127, 1322, 1324] : List Nat).flatMap tg
noncomputable def wsX2_remove : List Cond := Cond.code yX2_remove cX2_remove 3 none :: ([9, 25, 26, 27, 87, 88, 89, 98, 99, 100, 101, 102, 103, 104, 105, 106, 1322] : List Nat).flatMap tg
noncomputable def wsX0_isQueuedAlike : List Cond := Cond.code yX0_isQueuedAlike cX0_isQueuedAlike 5 (some .boolean) :: ([5, 6, 9, 10, 11, 14, 20, 25, 26, 27, 35, 36, 38, 86, 87, 88, 89, 90, 91, 92, 93, 94, 95, 96, 97, 98, 99, 100, 101, 102, 103, 104, 105, 106, 112, 113, 114, 115, 116, 117, 118, 120, 121, 122, 127, 147, 148, 149, 150, 151, 152, 153, 154, 155, 156, 157, 158, 159, 160, 161, 162, 163, 164, 165, 166, 167, 168, 169, 170, 171, 172, 173, 174, 175, 176, 177, 178, 179, 180, 181, 182, 183, 184, 185, 186, 187, 188, 206, 207, 208, 209, 210, 211, 212, 213, 214, 215, 1322, 1323, 1324, 1325] : List Nat).flatMap tg
noncomputable def wsX1_downSteps : List Cond := Cond.code yX1_downSteps cX1_downSteps 3 (some .int) :: ([14, 33, 37, 74, 75, 76, 77, 1324] : List Nat).flatMap tg
noncomputable def wsX1_append : List Cond := Cond.code yX1_append cX1_append 3 none :: ([14, 31, 33, 35, 36, 37, 38, 39, 40, 41, 42, 43, 44, 45, 46, 47, 48, 49, 50, 51, 52, 53, 54, 55, 56, 57, 58, 59, 60, 61, 78, 79, 80, 81, 82, 83, 84, 85, 1324] : List Nat).flatMap tg
noncomputable def wsX1_removeLast : List Cond := Cond.code yX1_removeLast cX1_removeLast 1 none :: ([14, 31, 33, 35, 36, 37, 38, 39, 40, 41, 42, 43, 44, 45, 46, 47, 48, 49, 50, 51, 52, 53, 54, 55, 56, 57, 58, 59, 60, 61, 82, 83, 84, 85, 1324] : List Nat).flatMap tg
noncomputable def wsX1_empty : List Cond := Cond.code yX1_empty cX1_empty 1 none :: ([14, 31, 33, 35, 36, 37, 38, 39, 40, 41, 42, 43, 44, 45, 46, 47, 48, 49, 50, 51, 52, 53, 54, 55, 56, 57, 58, 59, 60, 61, 82, 83, 84, 85, 1324] : List Nat).flatMap tg
noncomputable def wsX1_comparesLike : List Cond := Cond.code yX1_comparesLike cX1_comparesLike 4 (some .boolean) :: ([14, 35, 91, 92, 93, 137, 1324] : List Nat).flatMap tg
noncomputable def wsJ5_init_d00df : List Cond := Cond.code yJ5_init_d00df cJ5_init_d00df 2 none :: ([1, 2, 216, 217, 246, 254, 283, 284, 285, 286, 287, 288, 289, 290, 419, 1326] : List Nat).flatMap tg
noncomputable def wsJ4_init_da8c8 : List Cond := Cond.code yJ4_init_da8c8 cJ4_init_da8c8 1 none :: ([1, 2, 216, 217, 222, 246, 254, 283, 284, 285, 286, 287, 288, 289, 290, 416, 417, 418, 419, 1326] : List Nat).flatMap tg
noncomputable def wsJ5_length_8abf5 : List Cond := Cond.code yJ5_length_8abf5 cJ5_length_8abf5 1 (some .int) :: ([277, 1326] : List Nat).flatMap tg
noncomputable def wsJ4_length_8abf5 : List Cond := Cond.code yJ4_length_8abf5 cJ4_length_8abf5 1 (some .int) :: ([222, 277, 322, 330, 331, 332, 333, 1326] : List Nat).flatMap tg
noncomputable def wsJ8_newLength_cabcc : List Cond := Cond.code yJ8_newLength_cabcc cJ8_newLength_cabcc 4 (some .int) :: ([152, 227, 229, 230, 231, 232, 233, 234, 235] : List Nat).flatMap tg
noncomputable def wsJ5_newCapacity_0f7a4 : List Cond := Cond.code yJ5_newCapacity_0f7a4 cJ5_newCapacity_0f7a4 6 (some .int) :: ([152, 216, 217, 224, 225, 226, 227, 228, 229, 230, 231, 232, 233, 234, 235, 1326] : List Nat).flatMap tg
noncomputable def wsJ7_copyOf_9075b : List Cond := Cond.code yJ7_copyOf_9075b cJ7_copyOf_9075b 3 (some (.array .byte)) :: ([151, 152, 153, 240, 241, 242, 243, 244, 245, 246, 247, 248, 249, 250, 251] : List Nat).flatMap tg
noncomputable def wsJ5_ensureCapacityInternal_d00df : List Cond := Cond.code yJ5_ensureCapacityInternal_d00df cJ5_ensureCapacityInternal_d00df 3 none :: ([151, 152, 153, 216, 217, 218, 219, 220, 221, 222, 223, 224, 225, 226, 227, 228, 229, 230, 231, 232, 233, 234, 235, 236, 237, 238, 239, 240, 241, 242, 243, 244, 245, 246, 247, 248, 249, 250, 251, 1326] : List Nat).flatMap tg
noncomputable def wsJ5_isLatin1_aae02 : List Cond := Cond.code yJ5_isLatin1_aae02 cJ5_isLatin1_aae02 1 (some .boolean) :: ([217, 283, 1326] : List Nat).flatMap tg
noncomputable def wsJ1_canEncode_fc78d : List Cond := Cond.code yJ1_canEncode_fc78d cJ1_canEncode_fc78d 1 (some .boolean) :: ([] : List Nat).flatMap tg
noncomputable def wsJ5_append_3fe6f : List Cond := Cond.code yJ5_append_3fe6f cJ5_append_3fe6f 2 (some (.object "java/lang/AbstractStringBuilder")) :: ([151, 152, 153, 216, 217, 218, 219, 220, 221, 222, 223, 224, 225, 226, 227, 228, 229, 230, 231, 232, 233, 234, 235, 236, 237, 238, 239, 240, 241, 242, 243, 244, 245, 246, 247, 248, 249, 250, 251, 252, 253, 254, 255, 256, 257, 258, 259, 260, 261, 262, 263, 264, 265, 266, 267, 268, 269, 270, 271, 272, 273, 274, 275, 276, 277, 278, 279, 280, 281, 282, 283, 284, 285, 286, 287, 288, 289, 290, 291, 292, 293, 294, 295, 296, 297, 298, 299, 300, 301, 302, 303, 304, 305, 306, 307, 308, 309, 310, 311, 312, 313, 314, 315, 316, 317, 318, 319, 1326] : List Nat).flatMap tg
noncomputable def wsJ4_append_cf468 : List Cond := Cond.code yJ4_append_cf468 cJ4_append_cf468 2 (some (.object "java/lang/StringBuilder")) :: ([151, 152, 153, 216, 217, 218, 219, 220, 221, 222, 223, 224, 225, 226, 227, 228, 229, 230, 231, 232, 233, 234, 235, 236, 237, 238, 239, 240, 241, 242, 243, 244, 245, 246, 247, 248, 249, 250, 251, 252, 253, 254, 255, 256, 257, 258, 259, 260, 261, 262, 263, 264, 265, 266, 267, 268, 269, 270, 271, 272, 273, 274, 275, 276, 277, 278, 279, 280, 281, 282, 283, 284, 285, 286, 287, 288, 289, 290, 291, 292, 293, 294, 295, 296, 297, 298, 299, 300, 301, 302, 303, 304, 305, 306, 307, 308, 309, 310, 311, 312, 313, 314, 315, 316, 317, 318, 319, 320, 321, 322, 323, 324, 1326] : List Nat).flatMap tg
noncomputable def wsX4_appendGap : List Cond := Cond.code yX4_appendGap cX4_appendGap 1 none :: ([151, 152, 153, 216, 217, 218, 219, 220, 221, 222, 223, 224, 225, 226, 227, 228, 229, 230, 231, 232, 233, 234, 235, 236, 237, 238, 239, 240, 241, 242, 243, 244, 245, 246, 247, 248, 249, 250, 251, 252, 253, 254, 255, 256, 257, 258, 259, 260, 261, 262, 263, 264, 265, 266, 267, 268, 269, 270, 271, 272, 273, 274, 275, 276, 277, 278, 279, 280, 281, 282, 283, 284, 285, 286, 287, 288, 289, 290, 291, 292, 293, 294, 295, 296, 297, 298, 299, 300, 301, 302, 303, 304, 305, 306, 307, 308, 309, 310, 311, 312, 313, 314, 315, 316, 317, 318, 319, 320, 321, 322, 323, 324, 325, 326, 327, 328, 329, 330, 331, 332, 333, 334, 335, 336, 337, 1326] : List Nat).flatMap tg
noncomputable def wsJ6_stringSize_0f7a4 : List Cond := Cond.code yJ6_stringSize_0f7a4 cJ6_stringSize_0f7a4 4 (some .int) :: ([] : List Nat).flatMap tg
noncomputable def wsJ6_getChars_ba4f3 : List Cond := Cond.code yJ6_getChars_ba4f3 cJ6_getChars_ba4f3 7 (some .int) :: ([358, 359] : List Nat).flatMap tg
noncomputable def wsJ5_append_c97b9 : List Cond := Cond.code yJ5_append_c97b9 cJ5_append_c97b9 4 (some (.object "java/lang/AbstractStringBuilder")) :: ([45, 151, 152, 153, 216, 217, 218, 219, 220, 221, 222, 223, 224, 225, 226, 227, 228, 229, 230, 231, 232, 233, 234, 235, 236, 237, 238, 239, 240, 241, 242, 243, 244, 245, 246, 247, 248, 249, 250, 251, 254, 259, 260, 261, 264, 266, 269, 271, 272, 273, 274, 275, 276, 277, 278, 279, 280, 281, 282, 283, 295, 296, 297, 298, 299, 338, 339, 340, 341, 342, 343, 344, 345, 346, 347, 348, 349, 350, 351, 352, 353, 354, 355, 356, 357, 358, 359, 360, 361, 362, 1326] : List Nat).flatMap tg
noncomputable def wsJ4_append_bf812 : List Cond := Cond.code yJ4_append_bf812 cJ4_append_bf812 2 (some (.object "java/lang/StringBuilder")) :: ([45, 151, 152, 153, 216, 217, 218, 219, 220, 221, 222, 223, 224, 225, 226, 227, 228, 229, 230, 231, 232, 233, 234, 235, 236, 237, 238, 239, 240, 241, 242, 243, 244, 245, 246, 247, 248, 249, 250, 251, 254, 259, 260, 261, 264, 266, 269, 271, 272, 273, 274, 275, 276, 277, 278, 279, 280, 281, 282, 283, 295, 296, 297, 298, 299, 322, 338, 339, 340, 341, 342, 343, 344, 345, 346, 347, 348, 349, 350, 351, 352, 353, 354, 355, 356, 357, 358, 359, 360, 361, 362, 363, 364, 365, 366, 1326] : List Nat).flatMap tg
noncomputable def wsJ5_getValue_6d5f1 : List Cond := Cond.code yJ5_getValue_6d5f1 cJ5_getValue_6d5f1 1 (some (.array .byte)) :: ([216, 1326] : List Nat).flatMap tg
noncomputable def wsJ7_checkLength_df160 : List Cond := Cond.code yJ7_checkLength_df160 cJ7_checkLength_df160 2 none :: ([328, 373, 374, 1326] : List Nat).flatMap tg
noncomputable def wsJ7_copyOfRangeByte_39247 : List Cond := Cond.code yJ7_copyOfRangeByte_39247 cJ7_copyOfRangeByte_39247 5 (some (.array .byte)) :: ([151, 152, 153, 238, 246, 247, 248, 249, 250, 251, 328, 370, 371, 372, 373, 374, 1326] : List Nat).flatMap tg
noncomputable def wsJ7_copyOfRange_39247 : List Cond := Cond.code yJ7_copyOfRange_39247 cJ7_copyOfRange_39247 3 (some (.array .byte)) :: ([151, 152, 153, 238, 240, 241, 242, 243, 244, 245, 246, 247, 248, 249, 250, 251, 328, 367, 368, 369, 370, 371, 372, 373, 374, 1326] : List Nat).flatMap tg
noncomputable def wsJ0_init_db425 : List Cond := Cond.code yJ0_init_db425 cJ0_init_db425 5 none :: ([1, 2, 151, 152, 153, 216, 217, 222, 238, 240, 241, 242, 243, 244, 245, 246, 247, 248, 249, 250, 251, 254, 256, 257, 258, 259, 260, 261, 262, 263, 264, 265, 266, 267, 268, 269, 270, 274, 275, 276, 277, 279, 280, 281, 282, 283, 287, 288, 289, 290, 322, 326, 328, 329, 330, 331, 332, 333, 367, 368, 369, 370, 371, 372, 373, 374, 375, 376, 377, 378, 379, 380, 381, 382, 383, 384, 385, 386, 387, 388, 389, 390, 391, 392, 393, 394, 395, 396, 397, 398, 399, 400, 401, 402, 403, 1326, 1327] : List Nat).flatMap tg
noncomputable def wsJ0_init_81219 : List Cond := Cond.code yJ0_init_81219 cJ0_init_81219 2 none :: ([1, 2, 151, 152, 153, 216, 217, 222, 238, 240, 241, 242, 243, 244, 245, 246, 247, 248, 249, 250, 251, 254, 256, 257, 258, 259, 260, 261, 262, 263, 264, 265, 266, 267, 268, 269, 270, 274, 275, 276, 277, 279, 280, 281, 282, 283, 287, 288, 289, 290, 322, 326, 328, 329, 330, 331, 332, 333, 367, 368, 369, 370, 371, 372, 373, 374, 375, 376, 377, 378, 379, 380, 381, 382, 383, 384, 385, 386, 387, 388, 389, 390, 391, 392, 393, 394, 395, 396, 397, 398, 399, 400, 401, 402, 403, 404, 405, 406, 1326, 1327] : List Nat).flatMap tg
noncomputable def wsJ4_toString_0e30d : List Cond := Cond.code yJ4_toString_0e30d cJ4_toString_0e30d 1 (some (.object "java/lang/String")) :: ([1, 2, 151, 152, 153, 216, 217, 222, 238, 240, 241, 242, 243, 244, 245, 246, 247, 248, 249, 250, 251, 254, 256, 257, 258, 259, 260, 261, 262, 263, 264, 265, 266, 267, 268, 269, 270, 274, 275, 276, 277, 279, 280, 281, 282, 283, 287, 288, 289, 290, 322, 326, 328, 329, 330, 331, 332, 333, 367, 368, 369, 370, 371, 372, 373, 374, 375, 376, 377, 378, 379, 380, 381, 382, 383, 384, 385, 386, 387, 388, 389, 390, 391, 392, 393, 394, 395, 396, 397, 398, 399, 400, 401, 402, 403, 404, 405, 406, 407, 408, 409, 410, 411, 1326, 1327] : List Nat).flatMap tg
noncomputable def wsX1_told : List Cond := Cond.code yX1_told cX1_told 3 (some (.object "java/lang/String")) :: ([1, 2, 14, 31, 33, 37, 45, 70, 71, 72, 73, 74, 75, 76, 77, 151, 152, 153, 216, 217, 218, 219, 220, 221, 222, 223, 224, 225, 226, 227, 228, 229, 230, 231, 232, 233, 234, 235, 236, 237, 238, 239, 240, 241, 242, 243, 244, 245, 246, 247, 248, 249, 250, 251, 252, 253, 254, 255, 256, 257, 258, 259, 260, 261, 262, 263, 264, 265, 266, 267, 268, 269, 270, 271, 272, 273, 274, 275, 276, 277, 278, 279, 280, 281, 282, 283, 284, 285, 286, 287, 288, 289, 290, 291, 292, 293, 294, 295, 296, 297, 298, 299, 300, 301, 302, 303, 304, 305, 306, 307, 308, 309, 310, 311, 312, 313, 314, 315, 316, 317, 318, 319, 320, 321, 322, 323, 324, 325, 326, 327, 328, 329, 330, 331, 332, 333, 334, 335, 336, 337, 338, 339, 340, 341, 342, 343, 344, 345, 346, 347, 348, 349, 350, 351, 352, 353, 354, 355, 356, 357, 358, 359, 360, 361, 362, 363, 364, 365, 366, 367, 368, 369, 370, 371, 372, 373, 374, 375, 376, 377, 378, 379, 380, 381, 382, 383, 384, 385, 386, 387, 388, 389, 390, 391, 392, 393, 394, 395, 396, 397, 398, 399, 400, 401, 402, 403, 404, 405, 406, 407, 408, 409, 410, 411, 412, 413, 414, 415, 416, 417, 418, 419, 420, 421, 422, 423, 424, 425, 426, 427, 428, 429, 430, 431, 1324, 1326, 1327] : List Nat).flatMap tg
noncomputable def wsX2_insert : List Cond := Cond.code yX2_insert cX2_insert 5 none :: ([9, 25, 26, 27, 87, 88, 89, 98, 99, 100, 101, 102, 103, 104, 105, 106, 1322] : List Nat).flatMap tg
noncomputable def wsX2_placesUnlike : List Cond := Cond.code yX2_placesUnlike cX2_placesUnlike 4 (some .int) :: ([9, 26, 27, 99, 100, 101, 102, 1322] : List Nat).flatMap tg
noncomputable def wsX2_hasAlike : List Cond := Cond.code yX2_hasAlike cX2_hasAlike 4 (some .boolean) :: ([9, 14, 25, 27, 35, 87, 88, 89, 91, 92, 93, 98, 127, 1322, 1324] : List Nat).flatMap tg
noncomputable def wsX2_thingsAhead : List Cond := Cond.code yX2_thingsAhead cX2_thingsAhead 5 (some .int) :: ([9, 14, 25, 27, 35, 87, 88, 89, 91, 92, 93, 98, 127, 1322, 1324] : List Nat).flatMap tg
noncomputable def wsX2_lastPlaceBy : List Cond := Cond.code yX2_lastPlaceBy cX2_lastPlaceBy 4 (some .int) :: ([9, 14, 25, 27, 35, 87, 88, 89, 91, 92, 93, 98, 127, 1322, 1324] : List Nat).flatMap tg
noncomputable def wsX2_isOnSide : List Cond := Cond.code yX2_isOnSide cX2_isOnSide 2 (some .boolean) :: ([] : List Nat).flatMap tg
noncomputable def wsX2_isNearer : List Cond := Cond.code yX2_isNearer cX2_isNearer 6 (some .boolean) :: ([9, 14, 25, 35, 87, 88, 89, 91, 92, 93, 98, 127, 1322, 1324] : List Nat).flatMap tg
noncomputable def wsX2_nearestPlace : List Cond := Cond.code yX2_nearestPlace cX2_nearestPlace 6 (some .int) :: ([9, 14, 25, 27, 35, 87, 88, 89, 91, 92, 93, 98, 127, 541, 542, 543, 544, 545, 546, 547, 1322, 1324] : List Nat).flatMap tg
noncomputable def wsX2_isFirstOfLot : List Cond := Cond.code yX2_isFirstOfLot cX2_isFirstOfLot 4 (some .boolean) :: ([9, 14, 25, 35, 87, 88, 89, 91, 92, 93, 98, 127, 1322, 1324] : List Nat).flatMap tg
noncomputable def wsX2_lots : List Cond := Cond.code yX2_lots cX2_lots 4 (some .int) :: ([9, 14, 25, 27, 35, 87, 88, 89, 91, 92, 93, 98, 127, 552, 553, 554, 555, 1322, 1324] : List Nat).flatMap tg
noncomputable def wsX2_lotsAhead : List Cond := Cond.code yX2_lotsAhead cX2_lotsAhead 5 (some .int) :: ([9, 14, 25, 27, 35, 87, 88, 89, 91, 92, 93, 98, 127, 552, 553, 554, 555, 1322, 1324] : List Nat).flatMap tg
noncomputable def wsX2_told : List Cond := Cond.code yX2_told cX2_told 3 (some (.object "java/lang/String")) :: ([1, 2, 9, 25, 26, 27, 45, 87, 88, 89, 98, 99, 100, 101, 102, 151, 152, 153, 216, 217, 218, 219, 220, 221, 222, 223, 224, 225, 226, 227, 228, 229, 230, 231, 232, 233, 234, 235, 236, 237, 238, 239, 240, 241, 242, 243, 244, 245, 246, 247, 248, 249, 250, 251, 252, 253, 254, 255, 256, 257, 258, 259, 260, 261, 262, 263, 264, 265, 266, 267, 268, 269, 270, 271, 272, 273, 274, 275, 276, 277, 278, 279, 280, 281, 282, 283, 284, 285, 286, 287, 288, 289, 290, 291, 292, 293, 294, 295, 296, 297, 298, 299, 300, 301, 302, 303, 304, 305, 306, 307, 308, 309, 310, 311, 312, 313, 314, 315, 316, 317, 318, 319, 320, 321, 322, 323, 324, 325, 326, 327, 328, 329, 330, 331, 332, 333, 334, 335, 336, 337, 338, 339, 340, 341, 342, 343, 344, 345, 346, 347, 348, 349, 350, 351, 352, 353, 354, 355, 356, 357, 358, 359, 360, 361, 362, 363, 364, 365, 366, 367, 368, 369, 370, 371, 372, 373, 374, 375, 376, 377, 378, 379, 380, 381, 382, 383, 384, 385, 386, 387, 388, 389, 390, 391, 392, 393, 394, 395, 396, 397, 398, 399, 400, 401, 402, 403, 404, 405, 406, 407, 408, 409, 410, 411, 414, 415, 416, 417, 418, 419, 420, 421, 422, 424, 425, 426, 429, 430, 431, 432, 433, 434, 435, 436, 1322, 1326, 1327] : List Nat).flatMap tg
noncomputable def wsX2_appendLot : List Cond := Cond.code yX2_appendLot cX2_appendLot 7 none :: ([9, 14, 25, 26, 27, 36, 45, 87, 88, 89, 98, 99, 100, 101, 102, 151, 152, 153, 172, 173, 174, 216, 217, 218, 219, 220, 221, 222, 223, 224, 225, 226, 227, 228, 229, 230, 231, 232, 233, 234, 235, 236, 237, 238, 239, 240, 241, 242, 243, 244, 245, 246, 247, 248, 249, 250, 251, 252, 253, 254, 255, 256, 257, 258, 259, 260, 261, 262, 263, 264, 265, 266, 267, 268, 269, 270, 271, 272, 273, 274, 275, 276, 277, 278, 279, 280, 281, 282, 283, 284, 285, 286, 287, 288, 289, 290, 291, 292, 293, 294, 295, 296, 297, 298, 299, 300, 301, 302, 303, 304, 305, 306, 307, 308, 309, 310, 311, 312, 313, 314, 315, 316, 317, 318, 319, 320, 321, 322, 323, 324, 325, 326, 327, 328, 329, 330, 331, 332, 333, 334, 335, 336, 337, 338, 339, 340, 341, 342, 343, 344, 345, 346, 347, 348, 349, 350, 351, 352, 353, 354, 355, 356, 357, 358, 359, 360, 361, 362, 363, 364, 365, 366, 420, 421, 422, 424, 425, 426, 434, 435, 437, 1322, 1324, 1326] : List Nat).flatMap tg
noncomputable def wsX2_lotsTold : List Cond := Cond.code yX2_lotsTold cX2_lotsTold 4 (some (.object "java/lang/String")) :: ([1, 2, 9, 14, 25, 26, 27, 36, 38, 45, 87, 88, 89, 98, 99, 100, 101, 102, 147, 148, 149, 151, 152, 153, 172, 173, 174, 216, 217, 218, 219, 220, 221, 222, 223, 224, 225, 226, 227, 228, 229, 230, 231, 232, 233, 234, 235, 236, 237, 238, 239, 240, 241, 242, 243, 244, 245, 246, 247, 248, 249, 250, 251, 252, 253, 254, 255, 256, 257, 258, 259, 260, 261, 262, 263, 264, 265, 266, 267, 268, 269, 270, 271, 272, 273, 274, 275, 276, 277, 278, 279, 280, 281, 282, 283, 284, 285, 286, 287, 288, 289, 290, 291, 292, 293, 294, 295, 296, 297, 298, 299, 300, 301, 302, 303, 304, 305, 306, 307, 308, 309, 310, 311, 312, 313, 314, 315, 316, 317, 318, 319, 320, 321, 322, 323, 324, 325, 326, 327, 328, 329, 330, 331, 332, 333, 334, 335, 336, 337, 338, 339, 340, 341, 342, 343, 344, 345, 346, 347, 348, 349, 350, 351, 352, 353, 354, 355, 356, 357, 358, 359, 360, 361, 362, 363, 364, 365, 366, 367, 368, 369, 370, 371, 372, 373, 374, 375, 376, 377, 378, 379, 380, 381, 382, 383, 384, 385, 386, 387, 388, 389, 390, 391, 392, 393, 394, 395, 396, 397, 398, 399, 400, 401, 402, 403, 404, 405, 406, 407, 408, 409, 410, 411, 414, 415, 416, 417, 418, 419, 420, 421, 422, 424, 425, 426, 429, 430, 431, 432, 433, 434, 435, 436, 437, 438, 439, 440, 441, 442, 1322, 1324, 1326, 1327] : List Nat).flatMap tg
noncomputable def wsX4_init : List Cond := Cond.code yX4_init cX4_init 2 none :: ([0, 1, 2, 3, 4, 5, 6, 7, 8, 9, 10, 11, 12, 13, 14, 15, 16, 17, 18, 19, 20, 21, 22, 23, 24, 25, 26, 27, 28, 29, 30, 31, 32, 33, 34, 35, 36, 37, 38, 130, 443, 444, 445, 446, 447, 448, 449, 450, 451, 452, 453, 454, 455, 456, 457, 458, 459, 1322, 1323, 1324, 1325, 1328] : List Nat).flatMap tg
noncomputable def wsX4_rowAt : List Cond := Cond.code yX4_rowAt cX4_rowAt 3 (some (.object "Orderlattice$Row")) :: ([445, 477, 478, 1328, 1329] : List Nat).flatMap tg
noncomputable def wsX4_demandWithin : List Cond := Cond.code yX4_demandWithin cX4_demandWithin 2 none :: ([485, 486, 1330] : List Nat).flatMap tg
noncomputable def wsX4_demandValue : List Cond := Cond.code yX4_demandValue cX4_demandValue 1 none :: ([421, 482, 483, 484, 485, 486, 1330] : List Nat).flatMap tg
noncomputable def wsX4_refuse : List Cond := Cond.code yX4_refuse cX4_refuse 1 (some .int) :: ([456, 1328] : List Nat).flatMap tg
noncomputable def wsX4_nextMark : List Cond := Cond.code yX4_nextMark cX4_nextMark 2 (some .int) :: ([455, 1328] : List Nat).flatMap tg
noncomputable def wsX4_placeNew : List Cond := Cond.code yX4_placeNew cX4_placeNew 5 (some .int) :: ([9, 25, 26, 27, 87, 88, 89, 98, 99, 100, 101, 102, 103, 104, 105, 106, 116, 117, 118, 421, 455, 456, 460, 461, 462, 463, 464, 465, 466, 467, 468, 469, 470, 471, 472, 1322, 1328] : List Nat).flatMap tg
noncomputable def wsX4_put : List Cond := Cond.code yX4_put cX4_put 4 (some .int) :: ([9, 25, 26, 27, 87, 88, 89, 98, 99, 100, 101, 102, 103, 104, 105, 106, 116, 117, 118, 421, 445, 455, 456, 460, 461, 462, 463, 464, 465, 466, 467, 468, 469, 470, 471, 472, 473, 474, 475, 476, 477, 478, 479, 480, 481, 482, 483, 484, 485, 486, 487, 488, 489, 490, 1322, 1328, 1329, 1330] : List Nat).flatMap tg
noncomputable def wsX4_demandGap : List Cond := Cond.code yX4_demandGap cX4_demandGap 2 none :: ([9, 27, 116, 117, 118, 460, 477, 478, 1322, 1329] : List Nat).flatMap tg
noncomputable def wsX4_putAt : List Cond := Cond.code yX4_putAt cX4_putAt 5 (some .int) :: ([9, 25, 26, 27, 87, 88, 89, 98, 99, 100, 101, 102, 103, 104, 105, 106, 116, 117, 118, 421, 445, 455, 456, 460, 461, 462, 463, 464, 465, 466, 467, 468, 469, 470, 471, 472, 473, 474, 475, 476, 477, 478, 479, 480, 481, 482, 483, 484, 485, 486, 487, 488, 489, 490, 491, 492, 493, 1322, 1328, 1329, 1330] : List Nat).flatMap tg
noncomputable def wsX4_fill : List Cond := Cond.code yX4_fill cX4_fill 7 (some .int) :: ([9, 25, 26, 27, 112, 113, 114, 116, 117, 118, 421, 445, 455, 456, 460, 461, 462, 463, 464, 465, 466, 467, 468, 473, 474, 475, 476, 477, 478, 482, 483, 484, 485, 486, 494, 1322, 1328, 1329, 1330] : List Nat).flatMap tg
noncomputable def wsX4_demandPlace : List Cond := Cond.code yX4_demandPlace cX4_demandPlace 2 none :: ([9, 27, 116, 117, 118, 460, 477, 478, 1322, 1329] : List Nat).flatMap tg
noncomputable def wsX4_drop : List Cond := Cond.code yX4_drop cX4_drop 5 (some .int) :: ([9, 25, 26, 27, 87, 88, 89, 98, 99, 100, 101, 102, 103, 104, 105, 106, 116, 117, 118, 213, 214, 215, 421, 445, 460, 473, 474, 475, 476, 477, 478, 495, 496, 497, 498, 499, 1322, 1328, 1329] : List Nat).flatMap tg
noncomputable def wsX4_clear : List Cond := Cond.code yX4_clear cX4_clear 4 (some .int) :: ([9, 27, 116, 117, 118, 156, 157, 158, 421, 445, 460, 473, 474, 475, 476, 477, 478, 1027, 1322, 1328, 1329] : List Nat).flatMap tg
noncomputable def wsX4_copyRow : List Cond := Cond.code yX4_copyRow cX4_copyRow 5 (some .int) :: ([9, 25, 26, 27, 87, 88, 89, 98, 99, 100, 101, 102, 103, 104, 105, 106, 116, 117, 118, 166, 167, 168, 169, 421, 445, 460, 473, 474, 475, 476, 477, 478, 500, 1322, 1328, 1329] : List Nat).flatMap tg
noncomputable def wsX4_turnRow : List Cond := Cond.code yX4_turnRow cX4_turnRow 3 (some .int) :: ([9, 25, 26, 27, 87, 88, 89, 95, 96, 97, 98, 99, 100, 101, 102, 103, 104, 105, 106, 116, 117, 118, 194, 195, 196, 197, 421, 445, 460, 473, 474, 475, 476, 477, 478, 501, 1322, 1328, 1329] : List Nat).flatMap tg
noncomputable def wsJ9_floorMod_7cf53 : List Cond := Cond.code yJ9_floorMod_7cf53 cJ9_floorMod_7cf53 3 (some .int) :: ([] : List Nat).flatMap tg
noncomputable def wsX4_wheel : List Cond := Cond.code yX4_wheel cX4_wheel 7 (some .int) :: ([9, 25, 26, 27, 87, 88, 89, 98, 99, 100, 101, 102, 103, 104, 105, 106, 116, 117, 118, 152, 166, 167, 168, 169, 421, 445, 453, 460, 473, 474, 475, 476, 477, 478, 498, 500, 502, 503, 504, 505, 506, 1322, 1328, 1329] : List Nat).flatMap tg
noncomputable def wsX4_swap : List Cond := Cond.code yX4_swap cX4_swap 5 (some .int) :: ([9, 25, 26, 27, 87, 88, 89, 95, 96, 97, 98, 99, 100, 101, 102, 103, 104, 105, 106, 116, 117, 118, 421, 445, 460, 473, 474, 475, 476, 477, 478, 495, 496, 497, 505, 507, 1322, 1328, 1329] : List Nat).flatMap tg
noncomputable def wsX4_orderAt : List Cond := Cond.code yX4_orderAt cX4_orderAt 3 (some (.object "Orderlattice$Order")) :: ([447, 477, 478, 1328, 1329] : List Nat).flatMap tg
noncomputable def wsX4_sort : List Cond := Cond.code yX4_sort cX4_sort 6 (some .int) :: ([5, 9, 14, 20, 25, 26, 27, 35, 36, 38, 86, 87, 88, 89, 90, 91, 92, 93, 94, 95, 96, 97, 98, 99, 100, 101, 102, 103, 104, 105, 106, 112, 113, 114, 116, 117, 118, 120, 121, 122, 147, 148, 149, 150, 151, 152, 153, 154, 155, 156, 157, 158, 159, 160, 161, 162, 163, 164, 165, 166, 167, 168, 169, 170, 171, 172, 173, 174, 175, 176, 177, 178, 179, 180, 181, 182, 183, 186, 187, 188, 421, 445, 447, 449, 453, 473, 474, 475, 476, 477, 478, 482, 483, 484, 485, 486, 500, 508, 509, 510, 511, 512, 513, 514, 515, 516, 1322, 1323, 1324, 1328, 1329, 1330] : List Nat).flatMap tg
noncomputable def wsX4_sortPart : List Cond := Cond.code yX4_sortPart cX4_sortPart 7 (some .int) :: ([5, 9, 14, 25, 26, 27, 35, 86, 87, 88, 89, 90, 91, 92, 93, 94, 95, 96, 97, 98, 99, 100, 101, 102, 103, 104, 105, 106, 116, 117, 118, 120, 121, 122, 166, 167, 168, 169, 421, 445, 447, 449, 453, 460, 473, 474, 475, 476, 477, 478, 485, 486, 491, 492, 493, 500, 508, 509, 510, 511, 513, 514, 515, 516, 517, 1322, 1324, 1328, 1329, 1330] : List Nat).flatMap tg
noncomputable def wsX4_isSorted : List Cond := Cond.code yX4_isSorted cX4_isSorted 4 (some .boolean) :: ([9, 14, 25, 27, 35, 87, 88, 89, 91, 92, 93, 98, 124, 125, 126, 127, 421, 445, 447, 473, 474, 475, 476, 477, 478, 508, 509, 510, 511, 518, 1322, 1324, 1328, 1329] : List Nat).flatMap tg
noncomputable def wsX4_size : List Cond := Cond.code yX4_size cX4_size 2 (some .int) :: ([9, 27, 116, 117, 118, 421, 445, 460, 473, 474, 475, 476, 477, 478, 1322, 1328, 1329] : List Nat).flatMap tg
noncomputable def wsX4_valueAt : List Cond := Cond.code yX4_valueAt cX4_valueAt 4 (some .int) :: ([9, 25, 27, 87, 88, 89, 116, 117, 118, 421, 445, 460, 473, 474, 475, 476, 477, 478, 495, 496, 497, 505, 1322, 1328, 1329] : List Nat).flatMap tg
noncomputable def wsX4_markAt : List Cond := Cond.code yX4_markAt cX4_markAt 4 (some .int) :: ([9, 26, 27, 100, 101, 102, 116, 117, 118, 421, 445, 460, 473, 474, 475, 476, 477, 478, 495, 496, 497, 498, 1322, 1328, 1329] : List Nat).flatMap tg
noncomputable def wsX4_text : List Cond := Cond.code yX4_text cX4_text 2 (some (.object "java/lang/String")) :: ([1, 2, 9, 25, 26, 27, 45, 87, 88, 89, 98, 99, 100, 101, 102, 151, 152, 153, 216, 217, 218, 219, 220, 221, 222, 223, 224, 225, 226, 227, 228, 229, 230, 231, 232, 233, 234, 235, 236, 237, 238, 239, 240, 241, 242, 243, 244, 245, 246, 247, 248, 249, 250, 251, 252, 253, 254, 255, 256, 257, 258, 259, 260, 261, 262, 263, 264, 265, 266, 267, 268, 269, 270, 271, 272, 273, 274, 275, 276, 277, 278, 279, 280, 281, 282, 283, 284, 285, 286, 287, 288, 289, 290, 291, 292, 293, 294, 295, 296, 297, 298, 299, 300, 301, 302, 303, 304, 305, 306, 307, 308, 309, 310, 311, 312, 313, 314, 315, 316, 317, 318, 319, 320, 321, 322, 323, 324, 325, 326, 327, 328, 329, 330, 331, 332, 333, 334, 335, 336, 337, 338, 339, 340, 341, 342, 343, 344, 345, 346, 347, 348, 349, 350, 351, 352, 353, 354, 355, 356, 357, 358, 359, 360, 361, 362, 363, 364, 365, 366, 367, 368, 369, 370, 371, 372, 373, 374, 375, 376, 377, 378, 379, 380, 381, 382, 383, 384, 385, 386, 387, 388, 389, 390, 391, 392, 393, 394, 395, 396, 397, 398, 399, 400, 401, 402, 403, 404, 405, 406, 407, 408, 409, 410, 411, 414, 415, 416, 417, 418, 419, 420, 421, 422, 424, 425, 426, 429, 430, 431, 432, 433, 434, 435, 436, 445, 473, 474, 475, 476, 477, 478, 519, 520, 521, 522, 1322, 1326, 1327, 1328, 1329] : List Nat).flatMap tg
noncomputable def wsX4_extreme : List Cond := Cond.code yX4_extreme cX4_extreme 7 (some .int) :: ([9, 14, 25, 27, 35, 36, 87, 88, 89, 91, 92, 93, 98, 127, 172, 173, 174, 207, 208, 209, 421, 445, 447, 473, 474, 475, 476, 477, 478, 505, 508, 509, 510, 511, 523, 524, 525, 526, 527, 528, 1322, 1324, 1328, 1329] : List Nat).flatMap tg
noncomputable def wsX4_search : List Cond := Cond.code yX4_search cX4_search 6 (some .int) :: ([9, 14, 25, 27, 35, 87, 88, 89, 91, 92, 93, 98, 124, 125, 126, 127, 421, 445, 447, 456, 461, 462, 463, 464, 473, 474, 475, 476, 477, 478, 479, 480, 481, 482, 483, 484, 485, 486, 508, 509, 510, 511, 518, 529, 530, 531, 532, 533, 534, 535, 536, 1322, 1324, 1328, 1329, 1330] : List Nat).flatMap tg
noncomputable def wsX4_near : List Cond := Cond.code yX4_near cX4_near 8 (some .int) :: ([9, 14, 25, 26, 27, 35, 87, 88, 89, 91, 92, 93, 98, 100, 101, 102, 127, 421, 445, 447, 473, 474, 475, 476, 477, 478, 479, 480, 481, 482, 483, 484, 485, 486, 498, 508, 509, 510, 511, 537, 538, 539, 540, 541, 542, 543, 544, 545, 546, 547, 1322, 1324, 1328, 1329, 1330] : List Nat).flatMap tg
noncomputable def wsX4_kinds : List Cond := Cond.code yX4_kinds cX4_kinds 4 (some .int) :: ([9, 14, 25, 27, 35, 87, 88, 89, 91, 92, 93, 98, 127, 421, 445, 447, 473, 474, 475, 476, 477, 478, 508, 509, 510, 511, 548, 549, 550, 551, 552, 553, 554, 555, 1322, 1324, 1328, 1329] : List Nat).flatMap tg
noncomputable def wsX4_ahead : List Cond := Cond.code yX4_ahead cX4_ahead 6 (some .int) :: ([9, 14, 25, 27, 35, 87, 88, 89, 91, 92, 93, 98, 127, 421, 445, 447, 473, 474, 475, 476, 477, 478, 479, 480, 481, 482, 483, 484, 485, 486, 508, 509, 510, 511, 552, 553, 554, 555, 556, 557, 558, 559, 1322, 1324, 1328, 1329, 1330] : List Nat).flatMap tg
noncomputable def wsX4_groups : List Cond := Cond.code yX4_groups cX4_groups 4 (some (.object "java/lang/String")) :: ([1, 2, 9, 14, 25, 26, 27, 36, 38, 45, 87, 88, 89, 98, 99, 100, 101, 102, 147, 148, 149, 151, 152, 153, 172, 173, 174, 216, 217, 218, 219, 220, 221, 222, 223, 224, 225, 226, 227, 228, 229, 230, 231, 232, 233, 234, 235, 236, 237, 238, 239, 240, 241, 242, 243, 244, 245, 246, 247, 248, 249, 250, 251, 252, 253, 254, 255, 256, 257, 258, 259, 260, 261, 262, 263, 264, 265, 266, 267, 268, 269, 270, 271, 272, 273, 274, 275, 276, 277, 278, 279, 280, 281, 282, 283, 284, 285, 286, 287, 288, 289, 290, 291, 292, 293, 294, 295, 296, 297, 298, 299, 300, 301, 302, 303, 304, 305, 306, 307, 308, 309, 310, 311, 312, 313, 314, 315, 316, 317, 318, 319, 320, 321, 322, 323, 324, 325, 326, 327, 328, 329, 330, 331, 332, 333, 334, 335, 336, 337, 338, 339, 340, 341, 342, 343, 344, 345, 346, 347, 348, 349, 350, 351, 352, 353, 354, 355, 356, 357, 358, 359, 360, 361, 362, 363, 364, 365, 366, 367, 368, 369, 370, 371, 372, 373, 374, 375, 376, 377, 378, 379, 380, 381, 382, 383, 384, 385, 386, 387, 388, 389, 390, 391, 392, 393, 394, 395, 396, 397, 398, 399, 400, 401, 402, 403, 404, 405, 406, 407, 408, 409, 410, 411, 414, 415, 416, 417, 418, 419, 420, 421, 422, 424, 425, 426, 429, 430, 431, 432, 433, 434, 435, 436, 437, 438, 439, 440, 441, 442, 445, 447, 473, 474, 475, 476, 477, 478, 508, 509, 510, 511, 560, 561, 562, 563, 1322, 1324, 1326, 1327, 1328, 1329] : List Nat).flatMap tg
noncomputable def wsX4_ranks : List Cond := Cond.code yX4_ranks cX4_ranks 9 (some (.object "java/lang/String")) :: ([1, 2, 9, 14, 25, 26, 27, 35, 36, 45, 87, 88, 89, 91, 92, 93, 98, 99, 100, 101, 102, 103, 104, 105, 106, 116, 117, 118, 127, 151, 152, 153, 166, 167, 168, 169, 172, 173, 174, 207, 208, 209, 213, 214, 215, 216, 217, 218, 219, 220, 221, 222, 223, 224, 225, 226, 227, 228, 229, 230, 231, 232, 233, 234, 235, 236, 237, 238, 239, 240, 241, 242, 243, 244, 245, 246, 247, 248, 249, 250, 251, 252, 253, 254, 255, 256, 257, 258, 259, 260, 261, 262, 263, 264, 265, 266, 267, 268, 269, 270, 271, 272, 273, 274, 275, 276, 277, 278, 279, 280, 281, 282, 283, 284, 285, 286, 287, 288, 289, 290, 291, 292, 293, 294, 295, 296, 297, 298, 299, 300, 301, 302, 303, 304, 305, 306, 307, 308, 309, 310, 311, 312, 313, 314, 315, 316, 317, 318, 319, 320, 321, 322, 323, 324, 325, 326, 327, 328, 329, 330, 331, 332, 333, 334, 335, 336, 337, 338, 339, 340, 341, 342, 343, 344, 345, 346, 347, 348, 349, 350, 351, 352, 353, 354, 355, 356, 357, 358, 359, 360, 361, 362, 363, 364, 365, 366, 367, 368, 369, 370, 371, 372, 373, 374, 375, 376, 377, 378, 379, 380, 381, 382, 383, 384, 385, 386, 387, 388, 389, 390, 391, 392, 393, 394, 395, 396, 397, 398, 399, 400, 401, 402, 403, 404, 405, 406, 407, 408, 409, 410, 411, 414, 415, 416, 417, 418, 419, 420, 421, 422, 424, 425, 426, 429, 430, 431, 445, 447, 453, 460, 473, 474, 475, 476, 477, 478, 499, 500, 505, 508, 509, 510, 511, 527, 528, 564, 565, 566, 567, 568, 1322, 1324, 1326, 1327, 1328, 1329] : List Nat).flatMap tg
noncomputable def wsX4_step : List Cond := Cond.code yX4_step cX4_step 5 (some .int) :: ([14, 31, 33, 35, 36, 37, 38, 39, 40, 41, 42, 43, 44, 45, 46, 47, 48, 49, 50, 51, 52, 53, 54, 55, 56, 57, 58, 59, 60, 61, 63, 64, 65, 78, 79, 80, 81, 82, 83, 84, 85, 147, 148, 149, 421, 447, 456, 461, 462, 463, 464, 477, 478, 482, 483, 484, 485, 486, 508, 509, 510, 511, 569, 570, 571, 572, 573, 574, 1324, 1328, 1329, 1330] : List Nat).flatMap tg
noncomputable def wsX4_unstep : List Cond := Cond.code yX4_unstep cX4_unstep 4 (some .int) :: ([14, 31, 33, 35, 36, 37, 38, 39, 40, 41, 42, 43, 44, 45, 46, 47, 48, 49, 50, 51, 52, 53, 54, 55, 56, 57, 58, 59, 60, 61, 63, 64, 65, 71, 72, 73, 82, 83, 84, 85, 421, 447, 456, 461, 462, 463, 464, 477, 478, 508, 509, 510, 511, 569, 575, 576, 577, 578, 579, 1324, 1328, 1329] : List Nat).flatMap tg
noncomputable def wsX4_wipe : List Cond := Cond.code yX4_wipe cX4_wipe 4 (some .int) :: ([14, 31, 33, 35, 36, 37, 38, 39, 40, 41, 42, 43, 44, 45, 46, 47, 48, 49, 50, 51, 52, 53, 54, 55, 56, 57, 58, 59, 60, 61, 63, 64, 65, 82, 83, 84, 85, 421, 447, 477, 478, 508, 509, 510, 511, 569, 580, 581, 582, 583, 1324, 1328, 1329] : List Nat).flatMap tg
noncomputable def wsX4_copyOrder : List Cond := Cond.code yX4_copyOrder cX4_copyOrder 5 (some .int) :: ([14, 31, 33, 35, 36, 37, 38, 39, 40, 41, 42, 43, 44, 45, 46, 47, 48, 49, 50, 51, 52, 53, 54, 55, 56, 57, 58, 59, 60, 61, 62, 63, 64, 65, 66, 67, 68, 69, 70, 71, 72, 73, 74, 75, 76, 77, 78, 79, 80, 81, 82, 83, 84, 85, 199, 200, 201, 421, 447, 477, 478, 508, 509, 510, 511, 569, 584, 1324, 1328, 1329] : List Nat).flatMap tg
noncomputable def wsX4_turn : List Cond := Cond.code yX4_turn cX4_turn 3 (some .int) :: ([14, 31, 33, 35, 36, 37, 38, 39, 40, 41, 42, 43, 44, 45, 46, 47, 48, 49, 50, 51, 52, 53, 54, 55, 56, 57, 58, 59, 60, 61, 74, 75, 76, 77, 82, 83, 84, 85, 203, 204, 205, 421, 447, 477, 478, 508, 509, 510, 511, 585, 586, 587, 588, 589, 1324, 1328, 1329] : List Nat).flatMap tg
noncomputable def wsX4_product : List Cond := Cond.code yX4_product cX4_product 7 (some .int) :: ([14, 31, 33, 35, 36, 37, 38, 39, 40, 41, 42, 43, 44, 45, 46, 47, 48, 49, 50, 51, 52, 53, 54, 55, 56, 57, 58, 59, 60, 61, 62, 63, 64, 65, 66, 67, 68, 69, 70, 71, 72, 73, 74, 75, 76, 77, 78, 79, 80, 81, 82, 83, 84, 85, 139, 140, 141, 147, 148, 149, 199, 200, 201, 421, 447, 454, 456, 461, 462, 463, 464, 477, 478, 508, 509, 510, 511, 569, 574, 584, 590, 1324, 1328, 1329] : List Nat).flatMap tg
noncomputable def wsX4_coarsestKey : List Cond := Cond.code yX4_coarsestKey cX4_coarsestKey 7 (some .int) :: ([14, 31, 33, 35, 36, 37, 38, 39, 40, 41, 42, 43, 44, 45, 46, 47, 48, 49, 50, 51, 52, 53, 54, 55, 56, 57, 58, 59, 60, 61, 62, 63, 64, 65, 66, 67, 68, 69, 70, 71, 72, 73, 74, 75, 76, 77, 78, 79, 80, 81, 82, 83, 84, 85, 147, 148, 149, 199, 200, 201, 454, 570, 571, 572, 573, 574, 584, 591, 1324, 1328] : List Nat).flatMap tg
noncomputable def wsX4_tellApart : List Cond := Cond.code yX4_tellApart cX4_tellApart 6 (some .int) :: ([14, 31, 33, 35, 36, 37, 38, 39, 40, 41, 42, 43, 44, 45, 46, 47, 48, 49, 50, 51, 52, 53, 54, 55, 56, 57, 58, 59, 60, 61, 62, 63, 64, 65, 66, 67, 68, 69, 70, 71, 72, 73, 74, 75, 76, 77, 78, 79, 80, 81, 82, 83, 84, 85, 91, 92, 93, 147, 148, 149, 199, 200, 201, 421, 447, 454, 456, 461, 462, 463, 464, 477, 478, 479, 480, 481, 482, 483, 484, 485, 486, 508, 509, 510, 511, 569, 570, 571, 572, 573, 574, 584, 591, 592, 593, 594, 595, 596, 1324, 1328, 1329, 1330] : List Nat).flatMap tg
noncomputable def wsX4_orderText : List Cond := Cond.code yX4_orderText cX4_orderText 2 (some (.object "java/lang/String")) :: ([1, 2, 14, 31, 33, 37, 45, 70, 71, 72, 73, 74, 75, 76, 77, 151, 152, 153, 216, 217, 218, 219, 220, 221, 222, 223, 224, 225, 226, 227, 228, 229, 230, 231, 232, 233, 234, 235, 236, 237, 238, 239, 240, 241, 242, 243, 244, 245, 246, 247, 248, 249, 250, 251, 252, 253, 254, 255, 256, 257, 258, 259, 260, 261, 262, 263, 264, 265, 266, 267, 268, 269, 270, 271, 272, 273, 274, 275, 276, 277, 278, 279, 280, 281, 282, 283, 284, 285, 286, 287, 288, 289, 290, 291, 292, 293, 294, 295, 296, 297, 298, 299, 300, 301, 302, 303, 304, 305, 306, 307, 308, 309, 310, 311, 312, 313, 314, 315, 316, 317, 318, 319, 320, 321, 322, 323, 324, 325, 326, 327, 328, 329, 330, 331, 332, 333, 334, 335, 336, 337, 338, 339, 340, 341, 342, 343, 344, 345, 346, 347, 348, 349, 350, 351, 352, 353, 354, 355, 356, 357, 358, 359, 360, 361, 362, 363, 364, 365, 366, 367, 368, 369, 370, 371, 372, 373, 374, 375, 376, 377, 378, 379, 380, 381, 382, 383, 384, 385, 386, 387, 388, 389, 390, 391, 392, 393, 394, 395, 396, 397, 398, 399, 400, 401, 402, 403, 404, 405, 406, 407, 408, 409, 410, 411, 412, 413, 414, 415, 416, 417, 418, 419, 420, 421, 422, 423, 424, 425, 426, 427, 428, 429, 430, 431, 447, 477, 478, 508, 509, 510, 511, 597, 598, 599, 600, 1324, 1326, 1327, 1328, 1329] : List Nat).flatMap tg
noncomputable def wsX4_compare : List Cond := Cond.code yX4_compare cX4_compare 5 (some .int) :: ([14, 35, 91, 92, 93, 421, 447, 477, 478, 479, 480, 481, 482, 483, 484, 485, 486, 508, 509, 510, 511, 592, 1324, 1328, 1329, 1330] : List Nat).flatMap tg
noncomputable def wsX4_comparedByBoth : List Cond := Cond.code yX4_comparedByBoth cX4_comparedByBoth 6 (some .int) :: ([14, 35, 91, 92, 93, 592, 1324] : List Nat).flatMap tg
noncomputable def wsX4_both : List Cond := Cond.code yX4_both cX4_both 7 (some .int) :: ([14, 35, 91, 92, 93, 421, 447, 477, 478, 479, 480, 481, 482, 483, 484, 485, 486, 508, 509, 510, 511, 592, 601, 602, 603, 1324, 1328, 1329, 1330] : List Nat).flatMap tg
noncomputable def wsX4_refines : List Cond := Cond.code yX4_refines cX4_refines 4 (some .boolean) :: ([14, 35, 91, 92, 93, 134, 135, 136, 137, 421, 447, 477, 478, 508, 509, 510, 511, 659, 1324, 1328, 1329] : List Nat).flatMap tg
noncomputable def wsX4_areSame : List Cond := Cond.code yX4_areSame cX4_areSame 4 (some .boolean) :: ([14, 35, 91, 92, 93, 137, 421, 447, 477, 478, 508, 509, 510, 511, 1250, 1251, 1252, 1253, 1324, 1328, 1329] : List Nat).flatMap tg
noncomputable def wsX4_pairsApart : List Cond := Cond.code yX4_pairsApart cX4_pairsApart 5 (some .int) :: ([14, 35, 91, 92, 93, 421, 592, 601, 602, 603, 1324] : List Nat).flatMap tg
noncomputable def wsX4_apart : List Cond := Cond.code yX4_apart cX4_apart 4 (some .int) :: ([14, 35, 91, 92, 93, 421, 447, 477, 478, 508, 509, 510, 511, 592, 601, 602, 603, 656, 657, 658, 1324, 1328, 1329] : List Nat).flatMap tg
noncomputable def wsX4_classes : List Cond := Cond.code yX4_classes cX4_classes 2 (some .int) :: ([14, 38, 147, 148, 149, 421, 447, 477, 478, 508, 509, 510, 511, 574, 1324, 1328, 1329] : List Nat).flatMap tg
noncomputable def wsX4_rank : List Cond := Cond.code yX4_rank cX4_rank 4 (some .int) :: ([14, 36, 172, 173, 174, 421, 447, 477, 478, 479, 480, 481, 482, 483, 484, 485, 486, 508, 509, 510, 511, 528, 1324, 1328, 1329, 1330] : List Nat).flatMap tg
noncomputable def wsX4_keyOf : List Cond := Cond.code yX4_keyOf cX4_keyOf 3 (some .int) :: ([14, 41, 42, 43, 44, 45, 46, 47, 48, 49, 421, 479, 480, 481, 482, 483, 484, 485, 486, 591, 1330] : List Nat).flatMap tg
noncomputable def wsX4_knock : List Cond := Cond.code yX4_knock cX4_knock 1 (some .int) :: ([457, 1328] : List Nat).flatMap tg
noncomputable def wsX4_thingsInAll : List Cond := Cond.code yX4_thingsInAll cX4_thingsInAll 3 (some .int) :: ([9, 27, 116, 117, 118, 421, 445, 460, 473, 474, 475, 476, 477, 478, 1322, 1328, 1329] : List Nat).flatMap tg
noncomputable def wsX4_stepsInAll : List Cond := Cond.code yX4_stepsInAll cX4_stepsInAll 3 (some .int) :: ([14, 37, 63, 64, 65, 421, 447, 477, 478, 508, 509, 510, 511, 569, 1324, 1328, 1329] : List Nat).flatMap tg
noncomputable def wsX4_count : List Cond := Cond.code yX4_count cX4_count 2 (some .int) :: ([9, 14, 27, 37, 63, 64, 65, 116, 117, 118, 421, 445, 447, 455, 456, 457, 460, 473, 474, 475, 476, 477, 478, 508, 509, 510, 511, 569, 604, 605, 606, 607, 608, 609, 610, 611, 1322, 1324, 1328, 1329] : List Nat).flatMap tg
noncomputable def wsX4_house : List Cond := Cond.code yX4_house cX4_house 2 (some .int) :: ([9, 14, 27, 37, 63, 64, 65, 116, 117, 118, 421, 445, 447, 455, 456, 457, 460, 473, 474, 475, 476, 477, 478, 482, 483, 484, 485, 486, 508, 509, 510, 511, 569, 604, 605, 606, 607, 608, 609, 610, 611, 612, 613, 614, 615, 1322, 1324, 1328, 1329, 1330] : List Nat).flatMap tg
noncomputable def wsX4_isSound : List Cond := Cond.code yX4_isSound cX4_isSound 7 (some .boolean) :: ([5, 6, 9, 10, 11, 14, 15, 20, 25, 26, 27, 31, 33, 35, 36, 37, 38, 39, 40, 41, 42, 43, 44, 45, 46, 47, 48, 49, 50, 51, 52, 53, 54, 55, 56, 57, 58, 59, 60, 61, 62, 63, 64, 65, 66, 67, 68, 69, 70, 71, 72, 73, 74, 75, 76, 77, 78, 79, 80, 81, 82, 83, 84, 85, 86, 87, 88, 89, 90, 91, 92, 93, 94, 95, 96, 97, 98, 99, 100, 101, 102, 103, 104, 105, 106, 107, 108, 109, 110, 111, 112, 113, 114, 115, 116, 117, 118, 119, 120, 121, 122, 123, 124, 125, 126, 127, 128, 129, 130, 131, 132, 133, 134, 135, 136, 137, 138, 139, 140, 141, 142, 143, 144, 145, 146, 147, 148, 149, 150, 151, 152, 153, 154, 155, 156, 157, 158, 159, 160, 161, 162, 163, 164, 165, 166, 167, 168, 169, 170, 171, 172, 173, 174, 175, 176, 177, 178, 179, 180, 181, 182, 183, 184, 185, 186, 187, 188, 189, 190, 191, 192, 193, 194, 195, 196, 197, 198, 199, 200, 201, 202, 203, 204, 205, 206, 207, 208, 209, 210, 211, 212, 213, 214, 215, 421, 445, 447, 452, 473, 474, 475, 476, 477, 478, 508, 509, 510, 511, 616, 617, 618, 619, 620, 621, 622, 623, 624, 625, 626, 627, 628, 629, 630, 631, 632, 633, 634, 635, 636, 637, 638, 639, 640, 641, 642, 643, 644, 645, 646, 647, 648, 649, 650, 1322, 1323, 1324, 1325, 1328, 1329] : List Nat).flatMap tg
noncomputable def wsX4_mixed : List Cond := Cond.code yX4_mixed cX4_mixed 3 (some .long) :: ([654] : List Nat).flatMap tg
noncomputable def wsX4_mixedWithRows : List Cond := Cond.code yX4_mixedWithRows cX4_mixedWithRows 8 (some .long) :: ([9, 25, 26, 27, 87, 88, 89, 100, 101, 102, 116, 117, 118, 421, 445, 460, 473, 474, 475, 476, 477, 478, 498, 505, 651, 652, 653, 654, 1322, 1328, 1329] : List Nat).flatMap tg
noncomputable def wsX4_mixedWithOrders : List Cond := Cond.code yX4_mixedWithOrders cX4_mixedWithOrders 8 (some .long) :: ([14, 31, 33, 36, 37, 38, 63, 64, 65, 71, 72, 73, 75, 76, 77, 147, 148, 149, 172, 173, 174, 421, 447, 477, 478, 508, 509, 510, 511, 528, 569, 574, 575, 651, 652, 653, 654, 655, 1324, 1328, 1329] : List Nat).flatMap tg
noncomputable def wsX4_mixedWithPairs : List Cond := Cond.code yX4_mixedWithPairs cX4_mixedWithPairs 7 (some .long) :: ([14, 35, 91, 92, 93, 134, 135, 136, 137, 421, 447, 477, 478, 508, 509, 510, 511, 592, 601, 602, 603, 651, 652, 653, 654, 656, 657, 658, 659, 1324, 1328, 1329] : List Nat).flatMap tg
noncomputable def wsX4_mixedWithSequences : List Cond := Cond.code yX4_mixedWithSequences cX4_mixedWithSequences 7 (some .long) :: ([9, 14, 25, 27, 35, 87, 88, 89, 91, 92, 93, 98, 124, 125, 126, 127, 421, 445, 447, 473, 474, 475, 476, 477, 478, 508, 509, 510, 511, 518, 548, 549, 550, 551, 552, 553, 554, 555, 651, 652, 653, 654, 1322, 1324, 1328, 1329] : List Nat).flatMap tg
noncomputable def wsX4_digest : List Cond := Cond.code yX4_digest cX4_digest 4 (some .long) :: ([5, 6, 9, 10, 11, 14, 15, 20, 25, 26, 27, 31, 33, 35, 36, 37, 38, 39, 40, 41, 42, 43, 44, 45, 46, 47, 48, 49, 50, 51, 52, 53, 54, 55, 56, 57, 58, 59, 60, 61, 62, 63, 64, 65, 66, 67, 68, 69, 70, 71, 72, 73, 74, 75, 76, 77, 78, 79, 80, 81, 82, 83, 84, 85, 86, 87, 88, 89, 90, 91, 92, 93, 94, 95, 96, 97, 98, 99, 100, 101, 102, 103, 104, 105, 106, 107, 108, 109, 110, 111, 112, 113, 114, 115, 116, 117, 118, 119, 120, 121, 122, 123, 124, 125, 126, 127, 128, 129, 130, 131, 132, 133, 134, 135, 136, 137, 138, 139, 140, 141, 142, 143, 144, 145, 146, 147, 148, 149, 150, 151, 152, 153, 154, 155, 156, 157, 158, 159, 160, 161, 162, 163, 164, 165, 166, 167, 168, 169, 170, 171, 172, 173, 174, 175, 176, 177, 178, 179, 180, 181, 182, 183, 184, 185, 186, 187, 188, 189, 190, 191, 192, 193, 194, 195, 196, 197, 198, 199, 200, 201, 202, 203, 204, 205, 206, 207, 208, 209, 210, 211, 212, 213, 214, 215, 421, 445, 447, 452, 455, 456, 457, 460, 473, 474, 475, 476, 477, 478, 498, 505, 508, 509, 510, 511, 518, 528, 548, 549, 550, 551, 552, 553, 554, 555, 569, 574, 575, 592, 601, 602, 603, 604, 605, 606, 607, 608, 609, 610, 611, 612, 613, 614, 615, 616, 617, 618, 619, 620, 621, 622, 623, 624, 625, 626, 627, 628, 629, 630, 631, 632, 633, 634, 635, 636, 637, 638, 639, 640, 641, 642, 643, 644, 645, 646, 647, 648, 649, 650, 651, 652, 653, 654, 655, 656, 657, 658, 659, 660, 661, 662, 663, 664, 665, 666, 667, 668, 669, 670, 671, 672, 673, 674, 675, 676, 677, 678, 679, 680, 1322, 1323, 1324, 1325, 1328, 1329] : List Nat).flatMap tg
noncomputable def wsX5_init : List Cond := Cond.code yX5_init cX5_init 1 none :: ([1, 2, 990] : List Nat).flatMap tg
noncomputable def wsX6_init : List Cond := Cond.code yX6_init cX6_init 1 none :: ([1, 2, 24, 32, 681, 710, 711, 724, 725, 726, 985, 986, 987, 1331] : List Nat).flatMap tg
noncomputable def wsX6_thrown : List Cond := Cond.code yX6_thrown cX6_thrown 1 (some .int) :: ([693, 1331] : List Nat).flatMap tg
noncomputable def wsX6_refuse : List Cond := Cond.code yX6_refuse cX6_refuse 3 (some .boolean) :: ([693, 1331] : List Nat).flatMap tg
noncomputable def wsX6_start : List Cond := Cond.code yX6_start cX6_start 3 (some .boolean) :: ([684, 693, 694, 695, 696, 697, 1331] : List Nat).flatMap tg
noncomputable def wsX6_isNo : List Cond := Cond.code yX6_isNo cX6_isNo 2 (some .boolean) :: ([] : List Nat).flatMap tg
noncomputable def wsX6_isNoRow : List Cond := Cond.code yX6_isNoRow cX6_isNoRow 1 (some .boolean) :: ([684, 686, 687, 688] : List Nat).flatMap tg
noncomputable def wsX6_isNoOrder : List Cond := Cond.code yX6_isNoOrder cX6_isNoOrder 1 (some .boolean) :: ([684, 686, 687, 688] : List Nat).flatMap tg
noncomputable def wsX6_isNoValue : List Cond := Cond.code yX6_isNoValue cX6_isNoValue 1 (some .boolean) :: ([684, 686, 687, 688] : List Nat).flatMap tg
noncomputable def wsX6_no : List Cond := Cond.code yX6_no cX6_no 1 (some .int) :: ([705, 1331] : List Nat).flatMap tg
noncomputable def wsX6_keyNow : List Cond := Cond.code yX6_keyNow cX6_keyNow 2 (some .int) :: ([] : List Nat).flatMap tg
noncomputable def wsX6_compareNow : List Cond := Cond.code yX6_compareNow cX6_compareNow 7 (some .int) :: ([684, 724, 725, 726, 727, 728, 729, 1331] : List Nat).flatMap tg
noncomputable def wsX6_isFirst : List Cond := Cond.code yX6_isFirst cX6_isFirst 4 (some .boolean) :: ([684, 720, 721, 722, 723, 724, 725, 726, 727, 728, 729, 1331] : List Nat).flatMap tg
noncomputable def wsX6_classesNow : List Cond := Cond.code yX6_classesNow cX6_classesNow 4 (some .int) :: ([684, 720, 721, 722, 723, 724, 725, 726, 727, 728, 729, 787, 788, 789, 790, 1331] : List Nat).flatMap tg
noncomputable def wsX6_rankNow : List Cond := Cond.code yX6_rankNow cX6_rankNow 5 (some .int) :: ([684, 720, 721, 722, 723, 724, 725, 726, 727, 728, 729, 787, 788, 789, 790, 1331] : List Nat).flatMap tg
noncomputable def wsX6_isRefined : List Cond := Cond.code yX6_isRefined cX6_isRefined 5 (some .boolean) :: ([684, 720, 721, 722, 723, 724, 725, 726, 727, 728, 729, 1331] : List Nat).flatMap tg
noncomputable def wsX6_bothNow : List Cond := Cond.code yX6_bothNow cX6_bothNow 7 (some .int) :: ([684, 720, 721, 722, 723, 724, 725, 726, 727, 728, 729, 1331] : List Nat).flatMap tg
noncomputable def wsX6_apartNow : List Cond := Cond.code yX6_apartNow cX6_apartNow 6 (some .int) :: ([684, 720, 721, 722, 723, 724, 725, 726, 727, 728, 729, 811, 812, 813, 814, 1331] : List Nat).flatMap tg
noncomputable def wsX6_at : List Cond := Cond.code yX6_at cX6_at 5 (some .int) :: ([681, 710, 711, 712, 1331] : List Nat).flatMap tg
noncomputable def wsX6_put : List Cond := Cond.code yX6_put cX6_put 3 (some .int) :: ([681, 682, 683, 684, 685, 686, 687, 688, 689, 690, 691, 692, 693, 694, 695, 696, 697, 698, 699, 700, 701, 702, 703, 704, 705, 706, 707, 708, 709, 710, 711, 712, 1331] : List Nat).flatMap tg
noncomputable def wsX6_putAt : List Cond := Cond.code yX6_putAt cX6_putAt 4 (some .int) :: ([681, 682, 683, 684, 685, 686, 687, 688, 689, 690, 691, 692, 693, 694, 695, 696, 697, 698, 699, 700, 701, 702, 703, 704, 705, 706, 707, 708, 709, 710, 711, 712, 1331] : List Nat).flatMap tg
noncomputable def wsX6_fill : List Cond := Cond.code yX6_fill cX6_fill 6 (some .int) :: ([681, 682, 683, 684, 685, 686, 687, 688, 689, 690, 691, 692, 693, 694, 695, 696, 697, 701, 702, 703, 704, 705, 706, 707, 708, 709, 710, 711, 712, 1331] : List Nat).flatMap tg
noncomputable def wsX6_drop : List Cond := Cond.code yX6_drop cX6_drop 5 (some .int) :: ([681, 682, 683, 684, 685, 686, 687, 688, 689, 690, 691, 692, 693, 694, 695, 696, 697, 710, 711, 1331] : List Nat).flatMap tg
noncomputable def wsX6_clear : List Cond := Cond.code yX6_clear cX6_clear 3 (some .int) :: ([681, 682, 683, 684, 685, 686, 687, 688, 689, 690, 691, 692, 693, 694, 695, 696, 697, 1331] : List Nat).flatMap tg
noncomputable def wsX6_copyRow : List Cond := Cond.code yX6_copyRow cX6_copyRow 4 (some .int) :: ([681, 682, 683, 684, 685, 686, 687, 688, 689, 690, 691, 692, 693, 694, 695, 696, 697, 710, 711, 1331] : List Nat).flatMap tg
noncomputable def wsX6_change : List Cond := Cond.code yX6_change cX6_change 6 none :: ([710, 711, 1331] : List Nat).flatMap tg
noncomputable def wsX6_turnRow : List Cond := Cond.code yX6_turnRow cX6_turnRow 4 (some .int) :: ([681, 682, 683, 684, 685, 686, 687, 688, 689, 690, 691, 692, 693, 694, 695, 696, 697, 710, 711, 730, 731, 732, 733, 1331] : List Nat).flatMap tg
noncomputable def wsX6_wheel : List Cond := Cond.code yX6_wheel cX6_wheel 7 (some .int) :: ([681, 682, 683, 684, 685, 686, 687, 688, 689, 690, 691, 692, 693, 694, 695, 696, 697, 710, 711, 730, 731, 732, 733, 1331] : List Nat).flatMap tg
noncomputable def wsX6_swap : List Cond := Cond.code yX6_swap cX6_swap 4 (some .int) :: ([681, 682, 683, 684, 685, 686, 687, 688, 689, 690, 691, 692, 693, 694, 695, 696, 697, 710, 711, 730, 731, 732, 733, 1331] : List Nat).flatMap tg
noncomputable def wsX6_sorted : List Cond := Cond.code yX6_sorted cX6_sorted 8 (some .int) :: ([24, 684, 710, 711, 720, 721, 722, 723, 724, 725, 726, 727, 728, 729, 730, 731, 732, 733, 1331] : List Nat).flatMap tg
noncomputable def wsX6_sort : List Cond := Cond.code yX6_sort cX6_sort 4 (some .int) :: ([24, 681, 682, 683, 684, 685, 686, 687, 688, 689, 690, 691, 692, 693, 694, 695, 696, 697, 710, 711, 713, 714, 715, 716, 717, 718, 719, 720, 721, 722, 723, 724, 725, 726, 727, 728, 729, 730, 731, 732, 733, 1331] : List Nat).flatMap tg
noncomputable def wsX6_sortPart : List Cond := Cond.code yX6_sortPart cX6_sortPart 5 (some .int) :: ([24, 681, 682, 683, 684, 685, 686, 687, 688, 689, 690, 691, 692, 693, 694, 695, 696, 697, 710, 711, 713, 714, 715, 716, 717, 718, 719, 720, 721, 722, 723, 724, 725, 726, 727, 728, 729, 730, 731, 732, 733, 1331] : List Nat).flatMap tg
noncomputable def wsX6_isInSequence : List Cond := Cond.code yX6_isInSequence cX6_isInSequence 4 (some .boolean) :: ([681, 684, 710, 720, 721, 722, 723, 724, 725, 726, 727, 728, 729, 1331] : List Nat).flatMap tg
noncomputable def wsX6_isSorted : List Cond := Cond.code yX6_isSorted cX6_isSorted 3 (some .boolean) :: ([681, 682, 683, 684, 685, 686, 687, 688, 689, 690, 691, 692, 693, 694, 695, 696, 697, 710, 713, 714, 715, 720, 721, 722, 723, 724, 725, 726, 727, 728, 729, 734, 735, 736, 737, 1331] : List Nat).flatMap tg
noncomputable def wsX6_size : List Cond := Cond.code yX6_size cX6_size 2 (some .int) :: ([681, 682, 683, 684, 685, 686, 687, 688, 689, 690, 691, 692, 693, 694, 695, 696, 697, 1331] : List Nat).flatMap tg
noncomputable def wsX6_valueAt : List Cond := Cond.code yX6_valueAt cX6_valueAt 3 (some .int) :: ([681, 682, 683, 684, 685, 686, 687, 688, 689, 690, 691, 692, 693, 694, 695, 696, 697, 710, 1331] : List Nat).flatMap tg
noncomputable def wsX6_markAt : List Cond := Cond.code yX6_markAt cX6_markAt 3 (some .int) :: ([681, 682, 683, 684, 685, 686, 687, 688, 689, 690, 691, 692, 693, 694, 695, 696, 697, 711, 1331] : List Nat).flatMap tg
noncomputable def wsJ0_coder_7d493 : List Cond := Cond.code yJ0_coder_7d493 cJ0_coder_7d493 1 (some .byte) :: ([385, 387, 1327] : List Nat).flatMap tg
noncomputable def wsJ0_length_8abf5 : List Cond := Cond.code yJ0_length_8abf5 cJ0_length_8abf5 1 (some .int) :: ([264, 385, 386, 387, 742, 743, 744, 746, 1327] : List Nat).flatMap tg
noncomputable def wsJ5_inflateIfNeededFor_a7421 : List Cond := Cond.code yJ5_inflateIfNeededFor_a7421 cJ5_inflateIfNeededFor_a7421 2 none :: ([216, 217, 222, 246, 252, 253, 254, 255, 256, 257, 258, 259, 260, 261, 262, 263, 264, 265, 266, 267, 268, 269, 270, 271, 272, 273, 274, 275, 276, 277, 278, 279, 280, 281, 282, 283, 284, 285, 286, 287, 288, 289, 290, 291, 292, 293, 294, 303, 304, 305, 306, 307, 385, 387, 741, 742, 743, 744, 1326, 1327] : List Nat).flatMap tg
noncomputable def wsJ0_getBytes_840e7 : List Cond := Cond.code yJ0_getBytes_840e7 cJ0_getBytes_840e7 4 none :: ([249, 250, 251, 252, 253, 254, 255, 256, 257, 258, 259, 260, 261, 262, 263, 264, 265, 266, 267, 268, 269, 270, 271, 272, 273, 274, 275, 276, 292, 293, 294, 385, 386, 387, 742, 743, 744, 745, 746, 747, 1327] : List Nat).flatMap tg
noncomputable def wsJ5_putStringAt_47b60 : List Cond := Cond.code yJ5_putStringAt_47b60 cJ5_putStringAt_47b60 3 none :: ([216, 217, 222, 246, 249, 250, 251, 252, 253, 254, 255, 256, 257, 258, 259, 260, 261, 262, 263, 264, 265, 266, 267, 268, 269, 270, 271, 272, 273, 274, 275, 276, 277, 278, 279, 280, 281, 282, 283, 284, 285, 286, 287, 288, 289, 290, 291, 292, 293, 294, 303, 304, 305, 306, 307, 385, 386, 387, 741, 742, 743, 744, 745, 746, 747, 748, 749, 750, 751, 752, 753, 754, 755, 756, 1326, 1327] : List Nat).flatMap tg
noncomputable def wsJ5_append_cf1ce : List Cond := Cond.code yJ5_append_cf1ce cJ5_append_cf1ce 3 (some (.object "java/lang/AbstractStringBuilder")) :: ([151, 152, 153, 216, 217, 218, 219, 220, 221, 222, 223, 224, 225, 226, 227, 228, 229, 230, 231, 232, 233, 234, 235, 236, 237, 238, 239, 240, 241, 242, 243, 244, 245, 246, 247, 248, 249, 250, 251, 252, 253, 254, 255, 256, 257, 258, 259, 260, 261, 262, 263, 264, 265, 266, 267, 268, 269, 270, 271, 272, 273, 274, 275, 276, 277, 278, 279, 280, 281, 282, 283, 284, 285, 286, 287, 288, 289, 290, 291, 292, 293, 294, 295, 296, 297, 298, 299, 303, 304, 305, 306, 307, 338, 339, 340, 341, 342, 343, 344, 345, 346, 385, 386, 387, 738, 739, 740, 741, 742, 743, 744, 745, 746, 747, 748, 749, 750, 751, 752, 753, 754, 755, 756, 757, 758, 759, 760, 761, 762, 763, 764, 765, 766, 767, 768, 769, 770, 1326, 1327] : List Nat).flatMap tg
noncomputable def wsJ4_append_15ec4 : List Cond := Cond.code yJ4_append_15ec4 cJ4_append_15ec4 2 (some (.object "java/lang/StringBuilder")) :: ([151, 152, 153, 216, 217, 218, 219, 220, 221, 222, 223, 224, 225, 226, 227, 228, 229, 230, 231, 232, 233, 234, 235, 236, 237, 238, 239, 240, 241, 242, 243, 244, 245, 246, 247, 248, 249, 250, 251, 252, 253, 254, 255, 256, 257, 258, 259, 260, 261, 262, 263, 264, 265, 266, 267, 268, 269, 270, 271, 272, 273, 274, 275, 276, 277, 278, 279, 280, 281, 282, 283, 284, 285, 286, 287, 288, 289, 290, 291, 292, 293, 294, 295, 296, 297, 298, 299, 303, 304, 305, 306, 307, 322, 338, 339, 340, 341, 342, 343, 344, 345, 346, 385, 386, 387, 738, 739, 740, 741, 742, 743, 744, 745, 746, 747, 748, 749, 750, 751, 752, 753, 754, 755, 756, 757, 758, 759, 760, 761, 762, 763, 764, 765, 766, 767, 768, 769, 770, 771, 772, 773, 774, 1326, 1327] : List Nat).flatMap tg
noncomputable def wsX6_text : List Cond := Cond.code yX6_text cX6_text 4 (some (.object "java/lang/String")) :: ([1, 2, 45, 151, 152, 153, 216, 217, 218, 219, 220, 221, 222, 223, 224, 225, 226, 227, 228, 229, 230, 231, 232, 233, 234, 235, 236, 237, 238, 239, 240, 241, 242, 243, 244, 245, 246, 247, 248, 249, 250, 251, 252, 253, 254, 255, 256, 257, 258, 259, 260, 261, 262, 263, 264, 265, 266, 267, 268, 269, 270, 271, 272, 273, 274, 275, 276, 277, 278, 279, 280, 281, 282, 283, 284, 285, 286, 287, 288, 289, 290, 291, 292, 293, 294, 295, 296, 297, 298, 299, 303, 304, 305, 306, 307, 322, 326, 328, 329, 330, 331, 332, 333, 338, 339, 340, 341, 342, 343, 344, 345, 346, 347, 348, 349, 350, 351, 352, 353, 354, 355, 356, 357, 358, 359, 360, 361, 362, 363, 364, 365, 366, 367, 368, 369, 370, 371, 372, 373, 374, 375, 376, 377, 378, 379, 380, 381, 382, 383, 384, 385, 386, 387, 388, 389, 390, 391, 392, 393, 394, 395, 396, 397, 398, 399, 400, 401, 402, 403, 404, 405, 406, 407, 408, 409, 410, 411, 414, 415, 416, 417, 418, 419, 424, 425, 426, 429, 430, 431, 681, 682, 683, 684, 685, 686, 687, 688, 689, 690, 691, 692, 693, 694, 695, 696, 697, 710, 711, 738, 739, 740, 741, 742, 743, 744, 745, 746, 747, 748, 749, 750, 751, 752, 753, 754, 755, 756, 757, 758, 759, 760, 761, 762, 763, 764, 765, 766, 767, 768, 769, 770, 771, 772, 773, 774, 775, 776, 777, 778, 779, 780, 781, 782, 1326, 1327, 1331] : List Nat).flatMap tg
noncomputable def wsX6_extreme : List Cond := Cond.code yX6_extreme cX6_extreme 7 (some .int) :: ([681, 682, 683, 684, 685, 686, 687, 688, 689, 690, 691, 692, 693, 694, 695, 696, 697, 710, 713, 714, 715, 720, 721, 722, 723, 724, 725, 726, 727, 728, 729, 783, 784, 785, 786, 787, 788, 789, 790, 1331] : List Nat).flatMap tg
noncomputable def wsX6_search : List Cond := Cond.code yX6_search cX6_search 7 (some .int) :: ([681, 682, 683, 684, 685, 686, 687, 688, 689, 690, 691, 692, 693, 694, 695, 696, 697, 698, 699, 700, 701, 702, 703, 704, 705, 710, 713, 714, 715, 720, 721, 722, 723, 724, 725, 726, 727, 728, 729, 734, 735, 736, 737, 1331] : List Nat).flatMap tg
noncomputable def wsX6_near : List Cond := Cond.code yX6_near cX6_near 10 (some .int) :: ([681, 682, 683, 684, 685, 686, 687, 688, 689, 690, 691, 692, 693, 694, 695, 696, 697, 698, 699, 700, 710, 711, 713, 714, 715, 720, 721, 722, 723, 724, 725, 726, 727, 728, 729, 1331] : List Nat).flatMap tg
noncomputable def wsX6_isFirstOf : List Cond := Cond.code yX6_isFirstOf cX6_isFirstOf 5 (some .boolean) :: ([684, 710, 720, 721, 722, 723, 724, 725, 726, 727, 728, 729, 1331] : List Nat).flatMap tg
noncomputable def wsX6_kindsNow : List Cond := Cond.code yX6_kindsNow cX6_kindsNow 5 (some .int) :: ([681, 684, 710, 720, 721, 722, 723, 724, 725, 726, 727, 728, 729, 795, 796, 797, 798, 1331] : List Nat).flatMap tg
noncomputable def wsX6_kinds : List Cond := Cond.code yX6_kinds cX6_kinds 3 (some .int) :: ([681, 682, 683, 684, 685, 686, 687, 688, 689, 690, 691, 692, 693, 694, 695, 696, 697, 710, 713, 714, 715, 720, 721, 722, 723, 724, 725, 726, 727, 728, 729, 791, 792, 793, 794, 795, 796, 797, 798, 1331] : List Nat).flatMap tg
noncomputable def wsX6_ahead : List Cond := Cond.code yX6_ahead cX6_ahead 6 (some .int) :: ([681, 682, 683, 684, 685, 686, 687, 688, 689, 690, 691, 692, 693, 694, 695, 696, 697, 698, 699, 700, 710, 713, 714, 715, 720, 721, 722, 723, 724, 725, 726, 727, 728, 729, 795, 796, 797, 798, 1331] : List Nat).flatMap tg
noncomputable def wsJ0_isEmpty_aae02 : List Cond := Cond.code yJ0_isEmpty_aae02 cJ0_isEmpty_aae02 1 (some .boolean) :: ([386, 1327] : List Nat).flatMap tg
noncomputable def wsX6_groups : List Cond := Cond.code yX6_groups cX6_groups 8 (some (.object "java/lang/String")) :: ([1, 2, 45, 151, 152, 153, 216, 217, 218, 219, 220, 221, 222, 223, 224, 225, 226, 227, 228, 229, 230, 231, 232, 233, 234, 235, 236, 237, 238, 239, 240, 241, 242, 243, 244, 245, 246, 247, 248, 249, 250, 251, 252, 253, 254, 255, 256, 257, 258, 259, 260, 261, 262, 263, 264, 265, 266, 267, 268, 269, 270, 271, 272, 273, 274, 275, 276, 277, 278, 279, 280, 281, 282, 283, 284, 285, 286, 287, 288, 289, 290, 291, 292, 293, 294, 295, 296, 297, 298, 299, 303, 304, 305, 306, 307, 322, 326, 328, 329, 330, 331, 332, 333, 338, 339, 340, 341, 342, 343, 344, 345, 346, 347, 348, 349, 350, 351, 352, 353, 354, 355, 356, 357, 358, 359, 360, 361, 362, 363, 364, 365, 366, 367, 368, 369, 370, 371, 372, 373, 374, 375, 376, 377, 378, 379, 380, 381, 382, 383, 384, 385, 386, 387, 388, 389, 390, 391, 392, 393, 394, 395, 396, 397, 398, 399, 400, 401, 402, 403, 404, 405, 406, 407, 408, 409, 410, 411, 414, 415, 416, 417, 418, 419, 424, 425, 426, 429, 430, 431, 681, 682, 683, 684, 685, 686, 687, 688, 689, 690, 691, 692, 693, 694, 695, 696, 697, 710, 711, 713, 714, 715, 720, 721, 722, 723, 724, 725, 726, 727, 728, 729, 738, 739, 740, 741, 742, 743, 744, 745, 746, 747, 748, 749, 750, 751, 752, 753, 754, 755, 756, 757, 758, 759, 760, 761, 762, 763, 764, 765, 766, 767, 768, 769, 770, 771, 772, 773, 774, 775, 776, 777, 778, 779, 780, 781, 782, 783, 784, 785, 786, 787, 788, 789, 790, 799, 800, 801, 802, 1326, 1327, 1331] : List Nat).flatMap tg
noncomputable def wsX6_ranks : List Cond := Cond.code yX6_ranks cX6_ranks 8 (some (.object "java/lang/String")) :: ([1, 2, 45, 151, 152, 153, 216, 217, 218, 219, 220, 221, 222, 223, 224, 225, 226, 227, 228, 229, 230, 231, 232, 233, 234, 235, 236, 237, 238, 239, 240, 241, 242, 243, 244, 245, 246, 247, 248, 249, 250, 251, 252, 253, 254, 255, 256, 257, 258, 259, 260, 261, 262, 263, 264, 265, 266, 267, 268, 269, 270, 271, 272, 273, 274, 275, 276, 277, 278, 279, 280, 281, 282, 283, 284, 285, 286, 287, 288, 289, 290, 291, 292, 293, 294, 295, 296, 297, 298, 299, 303, 304, 305, 306, 307, 322, 326, 328, 329, 330, 331, 332, 333, 338, 339, 340, 341, 342, 343, 344, 345, 346, 347, 348, 349, 350, 351, 352, 353, 354, 355, 356, 357, 358, 359, 360, 361, 362, 363, 364, 365, 366, 367, 368, 369, 370, 371, 372, 373, 374, 375, 376, 377, 378, 379, 380, 381, 382, 383, 384, 385, 386, 387, 388, 389, 390, 391, 392, 393, 394, 395, 396, 397, 398, 399, 400, 401, 402, 403, 404, 405, 406, 407, 408, 409, 410, 411, 414, 415, 416, 417, 418, 419, 424, 425, 426, 429, 430, 431, 681, 682, 683, 684, 685, 686, 687, 688, 689, 690, 691, 692, 693, 694, 695, 696, 697, 710, 713, 714, 715, 720, 721, 722, 723, 724, 725, 726, 727, 728, 729, 738, 739, 740, 741, 742, 743, 744, 745, 746, 747, 748, 749, 750, 751, 752, 753, 754, 755, 756, 757, 758, 759, 760, 761, 762, 763, 764, 765, 766, 767, 768, 769, 770, 771, 772, 773, 774, 775, 776, 777, 778, 779, 780, 781, 782, 783, 784, 785, 786, 787, 788, 789, 790, 799, 800, 801, 802, 1326, 1327, 1331] : List Nat).flatMap tg
noncomputable def wsX6_add : List Cond := Cond.code yX6_add cX6_add 4 none :: ([724, 725, 726, 1331] : List Nat).flatMap tg
noncomputable def wsX6_step : List Cond := Cond.code yX6_step cX6_step 4 (some .int) :: ([684, 686, 687, 688, 689, 690, 691, 692, 693, 694, 695, 696, 697, 701, 702, 703, 704, 705, 713, 714, 715, 720, 721, 722, 723, 724, 725, 726, 727, 728, 729, 787, 788, 789, 790, 803, 804, 805, 806, 807, 808, 809, 810, 1331] : List Nat).flatMap tg
noncomputable def wsX6_unstep : List Cond := Cond.code yX6_unstep cX6_unstep 2 (some .int) :: ([684, 686, 687, 688, 689, 690, 691, 692, 693, 694, 695, 696, 697, 701, 702, 703, 704, 705, 713, 714, 715, 724, 725, 1331] : List Nat).flatMap tg
noncomputable def wsX6_wipe : List Cond := Cond.code yX6_wipe cX6_wipe 3 (some .int) :: ([684, 686, 687, 688, 689, 690, 691, 692, 693, 694, 695, 696, 697, 713, 714, 715, 724, 1331] : List Nat).flatMap tg
noncomputable def wsX6_copyOrder : List Cond := Cond.code yX6_copyOrder cX6_copyOrder 4 (some .int) :: ([684, 686, 687, 688, 689, 690, 691, 692, 693, 694, 695, 696, 697, 713, 714, 715, 724, 725, 726, 1331] : List Nat).flatMap tg
noncomputable def wsX6_turn : List Cond := Cond.code yX6_turn cX6_turn 4 (some .int) :: ([684, 686, 687, 688, 689, 690, 691, 692, 693, 694, 695, 696, 697, 713, 714, 715, 724, 726, 1331] : List Nat).flatMap tg
noncomputable def wsX6_product : List Cond := Cond.code yX6_product cX6_product 9 (some .int) :: ([24, 32, 684, 686, 687, 688, 689, 690, 691, 692, 693, 694, 695, 696, 697, 701, 702, 703, 704, 705, 713, 714, 715, 720, 721, 722, 723, 724, 725, 726, 727, 728, 729, 787, 788, 789, 790, 803, 804, 805, 806, 807, 808, 809, 810, 1331] : List Nat).flatMap tg
noncomputable def wsX6_tellApart : List Cond := Cond.code yX6_tellApart cX6_tellApart 8 (some .int) :: ([684, 686, 687, 688, 689, 690, 691, 692, 693, 694, 695, 696, 697, 698, 699, 700, 701, 702, 703, 704, 705, 713, 714, 715, 720, 721, 722, 723, 724, 725, 726, 727, 728, 729, 787, 788, 789, 790, 803, 804, 805, 806, 807, 808, 809, 810, 1331] : List Nat).flatMap tg
noncomputable def wsX6_orderText : List Cond := Cond.code yX6_orderText cX6_orderText 4 (some (.object "java/lang/String")) :: ([1, 2, 45, 151, 152, 153, 216, 217, 218, 219, 220, 221, 222, 223, 224, 225, 226, 227, 228, 229, 230, 231, 232, 233, 234, 235, 236, 237, 238, 239, 240, 241, 242, 243, 244, 245, 246, 247, 248, 249, 250, 251, 252, 253, 254, 255, 256, 257, 258, 259, 260, 261, 262, 263, 264, 265, 266, 267, 268, 269, 270, 271, 272, 273, 274, 275, 276, 277, 278, 279, 280, 281, 282, 283, 284, 285, 286, 287, 288, 289, 290, 291, 292, 293, 294, 295, 296, 297, 298, 299, 303, 304, 305, 306, 307, 322, 326, 328, 329, 330, 331, 332, 333, 338, 339, 340, 341, 342, 343, 344, 345, 346, 347, 348, 349, 350, 351, 352, 353, 354, 355, 356, 357, 358, 359, 360, 361, 362, 363, 364, 365, 366, 367, 368, 369, 370, 371, 372, 373, 374, 375, 376, 377, 378, 379, 380, 381, 382, 383, 384, 385, 386, 387, 388, 389, 390, 391, 392, 393, 394, 395, 396, 397, 398, 399, 400, 401, 402, 403, 404, 405, 406, 407, 408, 409, 410, 411, 414, 415, 416, 417, 418, 419, 424, 425, 426, 429, 430, 431, 684, 686, 687, 688, 689, 690, 691, 692, 693, 694, 695, 696, 697, 713, 714, 715, 724, 725, 726, 738, 739, 740, 741, 742, 743, 744, 745, 746, 747, 748, 749, 750, 751, 752, 753, 754, 755, 756, 757, 758, 759, 760, 761, 762, 763, 764, 765, 766, 767, 768, 769, 770, 771, 772, 773, 774, 775, 776, 777, 778, 779, 780, 781, 782, 1326, 1327, 1331] : List Nat).flatMap tg
noncomputable def wsX6_compare : List Cond := Cond.code yX6_compare cX6_compare 4 (some .int) :: ([684, 686, 687, 688, 689, 690, 691, 692, 693, 694, 695, 696, 697, 698, 699, 700, 713, 714, 715, 720, 721, 722, 723, 724, 725, 726, 727, 728, 729, 1331] : List Nat).flatMap tg
noncomputable def wsX6_both : List Cond := Cond.code yX6_both cX6_both 5 (some .int) :: ([684, 686, 687, 688, 689, 690, 691, 692, 693, 694, 695, 696, 697, 698, 699, 700, 713, 714, 715, 720, 721, 722, 723, 724, 725, 726, 727, 728, 729, 811, 812, 813, 814, 1331] : List Nat).flatMap tg
noncomputable def wsX6_refines : List Cond := Cond.code yX6_refines cX6_refines 3 (some .boolean) :: ([684, 686, 687, 688, 689, 690, 691, 692, 693, 694, 695, 696, 697, 713, 714, 715, 720, 721, 722, 723, 724, 725, 726, 727, 728, 729, 815, 816, 817, 818, 1331] : List Nat).flatMap tg
noncomputable def wsX6_areSame : List Cond := Cond.code yX6_areSame cX6_areSame 5 (some .boolean) :: ([684, 686, 687, 688, 689, 690, 691, 692, 693, 694, 695, 696, 697, 713, 714, 715, 720, 721, 722, 723, 724, 725, 726, 727, 728, 729, 1331] : List Nat).flatMap tg
noncomputable def wsX6_apart : List Cond := Cond.code yX6_apart cX6_apart 3 (some .int) :: ([684, 686, 687, 688, 689, 690, 691, 692, 693, 694, 695, 696, 697, 713, 714, 715, 720, 721, 722, 723, 724, 725, 726, 727, 728, 729, 811, 812, 813, 814, 819, 820, 821, 822, 1331] : List Nat).flatMap tg
noncomputable def wsX6_classes : List Cond := Cond.code yX6_classes cX6_classes 2 (some .int) :: ([684, 686, 687, 688, 689, 690, 691, 692, 693, 694, 695, 696, 697, 713, 714, 715, 720, 721, 722, 723, 724, 725, 726, 727, 728, 729, 787, 788, 789, 790, 807, 808, 809, 810, 1331] : List Nat).flatMap tg
noncomputable def wsX6_rank : List Cond := Cond.code yX6_rank cX6_rank 3 (some .int) :: ([684, 686, 687, 688, 689, 690, 691, 692, 693, 694, 695, 696, 697, 698, 699, 700, 713, 714, 715, 720, 721, 722, 723, 724, 725, 726, 727, 728, 729, 783, 784, 785, 786, 787, 788, 789, 790, 1331] : List Nat).flatMap tg
noncomputable def wsX6_keyOf : List Cond := Cond.code yX6_keyOf cX6_keyOf 3 (some .int) :: ([684, 686, 687, 688, 689, 690, 691, 692, 693, 694, 695, 696, 697, 698, 699, 700, 727, 728, 729, 1331] : List Nat).flatMap tg
noncomputable def wsX6_knock : List Cond := Cond.code yX6_knock cX6_knock 1 (some .int) :: ([693, 829, 1331] : List Nat).flatMap tg
noncomputable def wsX6_houseNow : List Cond := Cond.code yX6_houseNow cX6_houseNow 8 (some .int) :: ([681, 705, 712, 724, 829, 1331] : List Nat).flatMap tg
noncomputable def wsX6_house : List Cond := Cond.code yX6_house cX6_house 2 (some .int) :: ([681, 684, 686, 687, 688, 689, 690, 691, 692, 693, 694, 695, 696, 697, 705, 712, 724, 825, 826, 827, 828, 829, 1331] : List Nat).flatMap tg
noncomputable def wsX6_isSound : List Cond := Cond.code yX6_isSound cX6_isSound 1 (some .boolean) :: ([693, 1331] : List Nat).flatMap tg
noncomputable def wsX6_digest : List Cond := Cond.code yX6_digest cX6_digest 5 (some .long) :: ([681, 684, 693, 705, 710, 711, 712, 720, 721, 722, 723, 724, 725, 726, 727, 728, 729, 734, 735, 736, 737, 783, 784, 785, 786, 787, 788, 789, 790, 791, 792, 793, 794, 795, 796, 797, 798, 807, 808, 809, 810, 811, 812, 813, 814, 815, 816, 817, 818, 819, 820, 821, 822, 823, 824, 825, 826, 827, 828, 829, 1331] : List Nat).flatMap tg
noncomputable def wsL_put : List Cond := Cond.codeWith yL_put cL_put 5 (some .int) [(0, 11, 14, 19), (0, 11, 18, 21)] :: ([9, 25, 26, 27, 87, 88, 89, 98, 99, 100, 101, 102, 103, 104, 105, 106, 116, 117, 118, 421, 445, 455, 456, 460, 461, 462, 463, 464, 465, 466, 467, 468, 469, 470, 471, 472, 473, 474, 475, 476, 477, 478, 479, 480, 481, 482, 483, 484, 485, 486, 487, 488, 489, 490, 830, 831, 832, 833, 834, 835, 1322, 1328, 1329, 1330, 1332] : List Nat).flatMap tg
noncomputable def wsL_putAt : List Cond := Cond.codeWith yL_putAt cL_putAt 6 (some .int) [(0, 13, 16, 19), (0, 13, 20, 21)] :: ([9, 25, 26, 27, 87, 88, 89, 98, 99, 100, 101, 102, 103, 104, 105, 106, 116, 117, 118, 421, 445, 455, 456, 460, 461, 462, 463, 464, 465, 466, 467, 468, 469, 470, 471, 472, 473, 474, 475, 476, 477, 478, 479, 480, 481, 482, 483, 484, 485, 486, 487, 488, 489, 490, 491, 492, 493, 830, 831, 836, 837, 838, 839, 1322, 1328, 1329, 1330, 1332] : List Nat).flatMap tg
noncomputable def wsL_fill : List Cond := Cond.codeWith yL_fill cL_fill 7 (some .int) [(0, 15, 18, 19), (0, 15, 22, 21)] :: ([9, 25, 26, 27, 112, 113, 114, 116, 117, 118, 421, 445, 455, 456, 460, 461, 462, 463, 464, 465, 466, 467, 468, 473, 474, 475, 476, 477, 478, 482, 483, 484, 485, 486, 494, 830, 831, 840, 841, 842, 843, 1322, 1328, 1329, 1330, 1332] : List Nat).flatMap tg
noncomputable def wsL_drop : List Cond := Cond.codeWith yL_drop cL_drop 5 (some .int) [(0, 11, 14, 19)] :: ([9, 25, 26, 27, 87, 88, 89, 98, 99, 100, 101, 102, 103, 104, 105, 106, 116, 117, 118, 213, 214, 215, 421, 445, 460, 473, 474, 475, 476, 477, 478, 495, 496, 497, 498, 499, 830, 844, 845, 846, 847, 1322, 1328, 1329, 1332] : List Nat).flatMap tg
noncomputable def wsL_clear : List Cond := Cond.codeWith yL_clear cL_clear 4 (some .int) [(0, 10, 13, 19)] :: ([9, 27, 116, 117, 118, 156, 157, 158, 421, 445, 460, 473, 474, 475, 476, 477, 478, 830, 1023, 1024, 1025, 1026, 1027, 1322, 1328, 1329, 1332] : List Nat).flatMap tg
noncomputable def wsL_copyRow : List Cond := Cond.codeWith yL_copyRow cL_copyRow 5 (some .int) [(0, 11, 14, 19)] :: ([9, 25, 26, 27, 87, 88, 89, 98, 99, 100, 101, 102, 103, 104, 105, 106, 116, 117, 118, 166, 167, 168, 169, 421, 445, 460, 473, 474, 475, 476, 477, 478, 500, 830, 848, 849, 850, 851, 1322, 1328, 1329, 1332] : List Nat).flatMap tg
noncomputable def wsL_turnRow : List Cond := Cond.codeWith yL_turnRow cL_turnRow 4 (some .int) [(0, 10, 13, 19)] :: ([9, 25, 26, 27, 87, 88, 89, 95, 96, 97, 98, 99, 100, 101, 102, 103, 104, 105, 106, 116, 117, 118, 194, 195, 196, 197, 421, 445, 460, 473, 474, 475, 476, 477, 478, 501, 830, 852, 853, 854, 855, 1322, 1328, 1329, 1332] : List Nat).flatMap tg
noncomputable def wsL_wheel : List Cond := Cond.codeWith yL_wheel cL_wheel 5 (some .int) [(0, 11, 14, 19)] :: ([9, 25, 26, 27, 87, 88, 89, 98, 99, 100, 101, 102, 103, 104, 105, 106, 116, 117, 118, 152, 166, 167, 168, 169, 421, 445, 453, 460, 473, 474, 475, 476, 477, 478, 498, 500, 502, 503, 504, 505, 506, 830, 856, 857, 858, 859, 1322, 1328, 1329, 1332] : List Nat).flatMap tg
noncomputable def wsL_swap : List Cond := Cond.codeWith yL_swap cL_swap 6 (some .int) [(0, 13, 16, 19)] :: ([9, 25, 26, 27, 87, 88, 89, 95, 96, 97, 98, 99, 100, 101, 102, 103, 104, 105, 106, 116, 117, 118, 421, 445, 460, 473, 474, 475, 476, 477, 478, 495, 496, 497, 505, 507, 830, 860, 861, 862, 863, 1322, 1328, 1329, 1332] : List Nat).flatMap tg
noncomputable def wsL_sort : List Cond := Cond.codeWith yL_sort cL_sort 6 (some .int) [(0, 13, 16, 19), (0, 13, 20, 21)] :: ([5, 9, 14, 20, 25, 26, 27, 35, 36, 38, 86, 87, 88, 89, 90, 91, 92, 93, 94, 95, 96, 97, 98, 99, 100, 101, 102, 103, 104, 105, 106, 112, 113, 114, 116, 117, 118, 120, 121, 122, 147, 148, 149, 150, 151, 152, 153, 154, 155, 156, 157, 158, 159, 160, 161, 162, 163, 164, 165, 166, 167, 168, 169, 170, 171, 172, 173, 174, 175, 176, 177, 178, 179, 180, 181, 182, 183, 186, 187, 188, 421, 445, 447, 449, 453, 473, 474, 475, 476, 477, 478, 482, 483, 484, 485, 486, 500, 508, 509, 510, 511, 512, 513, 514, 515, 516, 830, 831, 864, 865, 866, 867, 1322, 1323, 1324, 1328, 1329, 1330, 1332] : List Nat).flatMap tg
noncomputable def wsL_sortPart : List Cond := Cond.codeWith yL_sortPart cL_sortPart 7 (some .int) [(0, 15, 18, 19), (0, 15, 22, 21)] :: ([5, 9, 14, 25, 26, 27, 35, 86, 87, 88, 89, 90, 91, 92, 93, 94, 95, 96, 97, 98, 99, 100, 101, 102, 103, 104, 105, 106, 116, 117, 118, 120, 121, 122, 166, 167, 168, 169, 421, 445, 447, 449, 453, 460, 473, 474, 475, 476, 477, 478, 485, 486, 491, 492, 493, 500, 508, 509, 510, 511, 513, 514, 515, 516, 517, 830, 831, 868, 869, 870, 871, 1322, 1324, 1328, 1329, 1330, 1332] : List Nat).flatMap tg
noncomputable def wsL_isSorted : List Cond := Cond.codeWith yL_isSorted cL_isSorted 5 (some .int) [(0, 18, 21, 19)] :: ([9, 14, 25, 27, 35, 87, 88, 89, 91, 92, 93, 98, 124, 125, 126, 127, 421, 445, 447, 473, 474, 475, 476, 477, 478, 508, 509, 510, 511, 518, 830, 872, 873, 874, 875, 1322, 1324, 1328, 1329, 1332] : List Nat).flatMap tg
noncomputable def wsL_size : List Cond := Cond.codeWith yL_size cL_size 4 (some .int) [(0, 10, 13, 19)] :: ([9, 27, 116, 117, 118, 421, 445, 460, 473, 474, 475, 476, 477, 478, 830, 1084, 1085, 1086, 1087, 1322, 1328, 1329, 1332] : List Nat).flatMap tg
noncomputable def wsL_valueAt : List Cond := Cond.codeWith yL_valueAt cL_valueAt 5 (some .int) [(0, 11, 14, 19)] :: ([9, 25, 27, 87, 88, 89, 116, 117, 118, 421, 445, 460, 473, 474, 475, 476, 477, 478, 495, 496, 497, 505, 830, 876, 877, 878, 879, 1322, 1328, 1329, 1332] : List Nat).flatMap tg
noncomputable def wsL_markAt : List Cond := Cond.codeWith yL_markAt cL_markAt 5 (some .int) [(0, 11, 14, 19)] :: ([9, 26, 27, 100, 101, 102, 116, 117, 118, 421, 445, 460, 473, 474, 475, 476, 477, 478, 495, 496, 497, 498, 830, 880, 881, 882, 883, 1322, 1328, 1329, 1332] : List Nat).flatMap tg
noncomputable def wsL_text : List Cond := Cond.codeWith yL_text cL_text 4 (some .int) [(0, 9, 12, 19)] :: ([1, 2, 9, 25, 26, 27, 45, 87, 88, 89, 98, 99, 100, 101, 102, 151, 152, 153, 216, 217, 218, 219, 220, 221, 222, 223, 224, 225, 226, 227, 228, 229, 230, 231, 232, 233, 234, 235, 236, 237, 238, 239, 240, 241, 242, 243, 244, 245, 246, 247, 248, 249, 250, 251, 252, 253, 254, 255, 256, 257, 258, 259, 260, 261, 262, 263, 264, 265, 266, 267, 268, 269, 270, 271, 272, 273, 274, 275, 276, 277, 278, 279, 280, 281, 282, 283, 284, 285, 286, 287, 288, 289, 290, 291, 292, 293, 294, 295, 296, 297, 298, 299, 300, 301, 302, 303, 304, 305, 306, 307, 308, 309, 310, 311, 312, 313, 314, 315, 316, 317, 318, 319, 320, 321, 322, 323, 324, 325, 326, 327, 328, 329, 330, 331, 332, 333, 334, 335, 336, 337, 338, 339, 340, 341, 342, 343, 344, 345, 346, 347, 348, 349, 350, 351, 352, 353, 354, 355, 356, 357, 358, 359, 360, 361, 362, 363, 364, 365, 366, 367, 368, 369, 370, 371, 372, 373, 374, 375, 376, 377, 378, 379, 380, 381, 382, 383, 384, 385, 386, 387, 388, 389, 390, 391, 392, 393, 394, 395, 396, 397, 398, 399, 400, 401, 402, 403, 404, 405, 406, 407, 408, 409, 410, 411, 414, 415, 416, 417, 418, 419, 420, 421, 422, 424, 425, 426, 429, 430, 431, 432, 433, 434, 435, 436, 445, 473, 474, 475, 476, 477, 478, 519, 520, 521, 522, 830, 884, 885, 886, 887, 1322, 1326, 1327, 1328, 1329, 1332] : List Nat).flatMap tg
noncomputable def wsL_extreme : List Cond := Cond.codeWith yL_extreme cL_extreme 6 (some .int) [(0, 13, 16, 19)] :: ([9, 14, 25, 27, 35, 36, 87, 88, 89, 91, 92, 93, 98, 127, 172, 173, 174, 207, 208, 209, 421, 445, 447, 473, 474, 475, 476, 477, 478, 505, 508, 509, 510, 511, 523, 524, 525, 526, 527, 528, 830, 888, 889, 890, 891, 1322, 1324, 1328, 1329, 1332] : List Nat).flatMap tg
noncomputable def wsL_search : List Cond := Cond.codeWith yL_search cL_search 6 (some .int) [(0, 13, 16, 19), (0, 13, 20, 21)] :: ([9, 14, 25, 27, 35, 87, 88, 89, 91, 92, 93, 98, 124, 125, 126, 127, 421, 445, 447, 456, 461, 462, 463, 464, 473, 474, 475, 476, 477, 478, 479, 480, 481, 482, 483, 484, 485, 486, 508, 509, 510, 511, 518, 529, 530, 531, 532, 533, 534, 535, 536, 830, 831, 892, 893, 894, 895, 1322, 1324, 1328, 1329, 1330, 1332] : List Nat).flatMap tg
noncomputable def wsL_near : List Cond := Cond.codeWith yL_near cL_near 7 (some .int) [(0, 15, 18, 19), (0, 15, 22, 21)] :: ([9, 14, 25, 26, 27, 35, 87, 88, 89, 91, 92, 93, 98, 100, 101, 102, 127, 421, 445, 447, 473, 474, 475, 476, 477, 478, 479, 480, 481, 482, 483, 484, 485, 486, 498, 508, 509, 510, 511, 537, 538, 539, 540, 541, 542, 543, 544, 545, 546, 547, 830, 831, 896, 897, 898, 899, 1322, 1324, 1328, 1329, 1330, 1332] : List Nat).flatMap tg
noncomputable def wsL_kinds : List Cond := Cond.codeWith yL_kinds cL_kinds 5 (some .int) [(0, 11, 14, 19)] :: ([9, 14, 25, 27, 35, 87, 88, 89, 91, 92, 93, 98, 127, 421, 445, 447, 473, 474, 475, 476, 477, 478, 508, 509, 510, 511, 548, 549, 550, 551, 552, 553, 554, 555, 830, 900, 901, 902, 903, 1322, 1324, 1328, 1329, 1332] : List Nat).flatMap tg
noncomputable def wsL_ahead : List Cond := Cond.codeWith yL_ahead cL_ahead 6 (some .int) [(0, 13, 16, 19), (0, 13, 20, 21)] :: ([9, 14, 25, 27, 35, 87, 88, 89, 91, 92, 93, 98, 127, 421, 445, 447, 473, 474, 475, 476, 477, 478, 479, 480, 481, 482, 483, 484, 485, 486, 508, 509, 510, 511, 552, 553, 554, 555, 556, 557, 558, 559, 830, 831, 904, 905, 906, 907, 1322, 1324, 1328, 1329, 1330, 1332] : List Nat).flatMap tg
noncomputable def wsL_groups : List Cond := Cond.codeWith yL_groups cL_groups 5 (some .int) [(0, 10, 13, 19)] :: ([1, 2, 9, 14, 25, 26, 27, 36, 38, 45, 87, 88, 89, 98, 99, 100, 101, 102, 147, 148, 149, 151, 152, 153, 172, 173, 174, 216, 217, 218, 219, 220, 221, 222, 223, 224, 225, 226, 227, 228, 229, 230, 231, 232, 233, 234, 235, 236, 237, 238, 239, 240, 241, 242, 243, 244, 245, 246, 247, 248, 249, 250, 251, 252, 253, 254, 255, 256, 257, 258, 259, 260, 261, 262, 263, 264, 265, 266, 267, 268, 269, 270, 271, 272, 273, 274, 275, 276, 277, 278, 279, 280, 281, 282, 283, 284, 285, 286, 287, 288, 289, 290, 291, 292, 293, 294, 295, 296, 297, 298, 299, 300, 301, 302, 303, 304, 305, 306, 307, 308, 309, 310, 311, 312, 313, 314, 315, 316, 317, 318, 319, 320, 321, 322, 323, 324, 325, 326, 327, 328, 329, 330, 331, 332, 333, 334, 335, 336, 337, 338, 339, 340, 341, 342, 343, 344, 345, 346, 347, 348, 349, 350, 351, 352, 353, 354, 355, 356, 357, 358, 359, 360, 361, 362, 363, 364, 365, 366, 367, 368, 369, 370, 371, 372, 373, 374, 375, 376, 377, 378, 379, 380, 381, 382, 383, 384, 385, 386, 387, 388, 389, 390, 391, 392, 393, 394, 395, 396, 397, 398, 399, 400, 401, 402, 403, 404, 405, 406, 407, 408, 409, 410, 411, 414, 415, 416, 417, 418, 419, 420, 421, 422, 424, 425, 426, 429, 430, 431, 432, 433, 434, 435, 436, 437, 438, 439, 440, 441, 442, 445, 447, 473, 474, 475, 476, 477, 478, 508, 509, 510, 511, 560, 561, 562, 563, 830, 908, 909, 910, 911, 1322, 1324, 1326, 1327, 1328, 1329, 1332] : List Nat).flatMap tg
noncomputable def wsL_ranks : List Cond := Cond.codeWith yL_ranks cL_ranks 6 (some .int) [(0, 12, 15, 19)] :: ([1, 2, 9, 14, 25, 26, 27, 35, 36, 45, 87, 88, 89, 91, 92, 93, 98, 99, 100, 101, 102, 103, 104, 105, 106, 116, 117, 118, 127, 151, 152, 153, 166, 167, 168, 169, 172, 173, 174, 207, 208, 209, 213, 214, 215, 216, 217, 218, 219, 220, 221, 222, 223, 224, 225, 226, 227, 228, 229, 230, 231, 232, 233, 234, 235, 236, 237, 238, 239, 240, 241, 242, 243, 244, 245, 246, 247, 248, 249, 250, 251, 252, 253, 254, 255, 256, 257, 258, 259, 260, 261, 262, 263, 264, 265, 266, 267, 268, 269, 270, 271, 272, 273, 274, 275, 276, 277, 278, 279, 280, 281, 282, 283, 284, 285, 286, 287, 288, 289, 290, 291, 292, 293, 294, 295, 296, 297, 298, 299, 300, 301, 302, 303, 304, 305, 306, 307, 308, 309, 310, 311, 312, 313, 314, 315, 316, 317, 318, 319, 320, 321, 322, 323, 324, 325, 326, 327, 328, 329, 330, 331, 332, 333, 334, 335, 336, 337, 338, 339, 340, 341, 342, 343, 344, 345, 346, 347, 348, 349, 350, 351, 352, 353, 354, 355, 356, 357, 358, 359, 360, 361, 362, 363, 364, 365, 366, 367, 368, 369, 370, 371, 372, 373, 374, 375, 376, 377, 378, 379, 380, 381, 382, 383, 384, 385, 386, 387, 388, 389, 390, 391, 392, 393, 394, 395, 396, 397, 398, 399, 400, 401, 402, 403, 404, 405, 406, 407, 408, 409, 410, 411, 414, 415, 416, 417, 418, 419, 420, 421, 422, 424, 425, 426, 429, 430, 431, 445, 447, 453, 460, 473, 474, 475, 476, 477, 478, 499, 500, 505, 508, 509, 510, 511, 527, 528, 564, 565, 566, 567, 568, 830, 912, 913, 914, 915, 1322, 1324, 1326, 1327, 1328, 1329, 1332] : List Nat).flatMap tg
noncomputable def wsL_step : List Cond := Cond.codeWith yL_step cL_step 6 (some .int) [(0, 13, 16, 19), (0, 13, 20, 21)] :: ([14, 31, 33, 35, 36, 37, 38, 39, 40, 41, 42, 43, 44, 45, 46, 47, 48, 49, 50, 51, 52, 53, 54, 55, 56, 57, 58, 59, 60, 61, 63, 64, 65, 78, 79, 80, 81, 82, 83, 84, 85, 147, 148, 149, 421, 447, 456, 461, 462, 463, 464, 477, 478, 482, 483, 484, 485, 486, 508, 509, 510, 511, 569, 570, 571, 572, 573, 574, 830, 831, 916, 917, 918, 919, 1324, 1328, 1329, 1330, 1332] : List Nat).flatMap tg
noncomputable def wsL_unstep : List Cond := Cond.codeWith yL_unstep cL_unstep 4 (some .int) [(0, 10, 13, 19)] :: ([14, 31, 33, 35, 36, 37, 38, 39, 40, 41, 42, 43, 44, 45, 46, 47, 48, 49, 50, 51, 52, 53, 54, 55, 56, 57, 58, 59, 60, 61, 63, 64, 65, 71, 72, 73, 82, 83, 84, 85, 421, 447, 456, 461, 462, 463, 464, 477, 478, 508, 509, 510, 511, 569, 575, 576, 577, 578, 579, 830, 920, 921, 922, 923, 1324, 1328, 1329, 1332] : List Nat).flatMap tg
noncomputable def wsL_wipe : List Cond := Cond.codeWith yL_wipe cL_wipe 4 (some .int) [(0, 10, 13, 19)] :: ([14, 31, 33, 35, 36, 37, 38, 39, 40, 41, 42, 43, 44, 45, 46, 47, 48, 49, 50, 51, 52, 53, 54, 55, 56, 57, 58, 59, 60, 61, 63, 64, 65, 82, 83, 84, 85, 421, 447, 477, 478, 508, 509, 510, 511, 569, 580, 581, 582, 583, 830, 924, 925, 926, 927, 1324, 1328, 1329, 1332] : List Nat).flatMap tg
noncomputable def wsL_copyOrder : List Cond := Cond.codeWith yL_copyOrder cL_copyOrder 5 (some .int) [(0, 11, 14, 19)] :: ([14, 31, 33, 35, 36, 37, 38, 39, 40, 41, 42, 43, 44, 45, 46, 47, 48, 49, 50, 51, 52, 53, 54, 55, 56, 57, 58, 59, 60, 61, 62, 63, 64, 65, 66, 67, 68, 69, 70, 71, 72, 73, 74, 75, 76, 77, 78, 79, 80, 81, 82, 83, 84, 85, 199, 200, 201, 421, 447, 477, 478, 508, 509, 510, 511, 569, 584, 830, 928, 929, 930, 931, 1324, 1328, 1329, 1332] : List Nat).flatMap tg
noncomputable def wsL_turn : List Cond := Cond.codeWith yL_turn cL_turn 4 (some .int) [(0, 10, 13, 19)] :: ([14, 31, 33, 35, 36, 37, 38, 39, 40, 41, 42, 43, 44, 45, 46, 47, 48, 49, 50, 51, 52, 53, 54, 55, 56, 57, 58, 59, 60, 61, 74, 75, 76, 77, 82, 83, 84, 85, 203, 204, 205, 421, 447, 477, 478, 508, 509, 510, 511, 585, 586, 587, 588, 589, 830, 932, 933, 934, 935, 1324, 1328, 1329, 1332] : List Nat).flatMap tg
noncomputable def wsL_product : List Cond := Cond.codeWith yL_product cL_product 6 (some .int) [(0, 13, 16, 19)] :: ([14, 31, 33, 35, 36, 37, 38, 39, 40, 41, 42, 43, 44, 45, 46, 47, 48, 49, 50, 51, 52, 53, 54, 55, 56, 57, 58, 59, 60, 61, 62, 63, 64, 65, 66, 67, 68, 69, 70, 71, 72, 73, 74, 75, 76, 77, 78, 79, 80, 81, 82, 83, 84, 85, 139, 140, 141, 147, 148, 149, 199, 200, 201, 421, 447, 454, 456, 461, 462, 463, 464, 477, 478, 508, 509, 510, 511, 569, 574, 584, 590, 830, 936, 937, 938, 939, 1324, 1328, 1329, 1332] : List Nat).flatMap tg
noncomputable def wsL_tellApart : List Cond := Cond.codeWith yL_tellApart cL_tellApart 6 (some .int) [(0, 13, 16, 19), (0, 13, 20, 21)] :: ([14, 31, 33, 35, 36, 37, 38, 39, 40, 41, 42, 43, 44, 45, 46, 47, 48, 49, 50, 51, 52, 53, 54, 55, 56, 57, 58, 59, 60, 61, 62, 63, 64, 65, 66, 67, 68, 69, 70, 71, 72, 73, 74, 75, 76, 77, 78, 79, 80, 81, 82, 83, 84, 85, 91, 92, 93, 147, 148, 149, 199, 200, 201, 421, 447, 454, 456, 461, 462, 463, 464, 477, 478, 479, 480, 481, 482, 483, 484, 485, 486, 508, 509, 510, 511, 569, 570, 571, 572, 573, 574, 584, 591, 592, 593, 594, 595, 596, 830, 831, 940, 941, 942, 943, 1324, 1328, 1329, 1330, 1332] : List Nat).flatMap tg
noncomputable def wsL_orderText : List Cond := Cond.codeWith yL_orderText cL_orderText 4 (some .int) [(0, 9, 12, 19)] :: ([1, 2, 14, 31, 33, 37, 45, 70, 71, 72, 73, 74, 75, 76, 77, 151, 152, 153, 216, 217, 218, 219, 220, 221, 222, 223, 224, 225, 226, 227, 228, 229, 230, 231, 232, 233, 234, 235, 236, 237, 238, 239, 240, 241, 242, 243, 244, 245, 246, 247, 248, 249, 250, 251, 252, 253, 254, 255, 256, 257, 258, 259, 260, 261, 262, 263, 264, 265, 266, 267, 268, 269, 270, 271, 272, 273, 274, 275, 276, 277, 278, 279, 280, 281, 282, 283, 284, 285, 286, 287, 288, 289, 290, 291, 292, 293, 294, 295, 296, 297, 298, 299, 300, 301, 302, 303, 304, 305, 306, 307, 308, 309, 310, 311, 312, 313, 314, 315, 316, 317, 318, 319, 320, 321, 322, 323, 324, 325, 326, 327, 328, 329, 330, 331, 332, 333, 334, 335, 336, 337, 338, 339, 340, 341, 342, 343, 344, 345, 346, 347, 348, 349, 350, 351, 352, 353, 354, 355, 356, 357, 358, 359, 360, 361, 362, 363, 364, 365, 366, 367, 368, 369, 370, 371, 372, 373, 374, 375, 376, 377, 378, 379, 380, 381, 382, 383, 384, 385, 386, 387, 388, 389, 390, 391, 392, 393, 394, 395, 396, 397, 398, 399, 400, 401, 402, 403, 404, 405, 406, 407, 408, 409, 410, 411, 412, 413, 414, 415, 416, 417, 418, 419, 420, 421, 422, 423, 424, 425, 426, 427, 428, 429, 430, 431, 447, 477, 478, 508, 509, 510, 511, 597, 598, 599, 600, 830, 944, 945, 946, 947, 1324, 1326, 1327, 1328, 1329, 1332] : List Nat).flatMap tg
noncomputable def wsL_compare : List Cond := Cond.codeWith yL_compare cL_compare 6 (some .int) [(0, 13, 16, 19), (0, 13, 20, 21)] :: ([14, 35, 91, 92, 93, 421, 447, 477, 478, 479, 480, 481, 482, 483, 484, 485, 486, 508, 509, 510, 511, 592, 830, 831, 948, 949, 950, 951, 1324, 1328, 1329, 1330, 1332] : List Nat).flatMap tg
noncomputable def wsL_both : List Cond := Cond.codeWith yL_both cL_both 7 (some .int) [(0, 15, 18, 19), (0, 15, 22, 21)] :: ([14, 35, 91, 92, 93, 421, 447, 477, 478, 479, 480, 481, 482, 483, 484, 485, 486, 508, 509, 510, 511, 592, 601, 602, 603, 830, 831, 952, 953, 954, 955, 1324, 1328, 1329, 1330, 1332] : List Nat).flatMap tg
noncomputable def wsL_refines : List Cond := Cond.codeWith yL_refines cL_refines 5 (some .int) [(0, 18, 21, 19)] :: ([14, 35, 91, 92, 93, 134, 135, 136, 137, 421, 447, 477, 478, 508, 509, 510, 511, 659, 830, 1235, 1236, 1237, 1238, 1324, 1328, 1329, 1332] : List Nat).flatMap tg
noncomputable def wsL_areSame : List Cond := Cond.codeWith yL_areSame cL_areSame 5 (some .int) [(0, 18, 21, 19)] :: ([14, 35, 91, 92, 93, 137, 421, 447, 477, 478, 508, 509, 510, 511, 830, 1246, 1247, 1248, 1249, 1250, 1251, 1252, 1253, 1324, 1328, 1329, 1332] : List Nat).flatMap tg
noncomputable def wsL_apart : List Cond := Cond.codeWith yL_apart cL_apart 5 (some .int) [(0, 11, 14, 19)] :: ([14, 35, 91, 92, 93, 421, 447, 477, 478, 508, 509, 510, 511, 592, 601, 602, 603, 656, 657, 658, 830, 956, 957, 958, 959, 1324, 1328, 1329, 1332] : List Nat).flatMap tg
noncomputable def wsL_classes : List Cond := Cond.codeWith yL_classes cL_classes 4 (some .int) [(0, 10, 13, 19)] :: ([14, 38, 147, 148, 149, 421, 447, 477, 478, 508, 509, 510, 511, 574, 830, 1268, 1269, 1270, 1271, 1324, 1328, 1329, 1332] : List Nat).flatMap tg
noncomputable def wsL_rank : List Cond := Cond.codeWith yL_rank cL_rank 5 (some .int) [(0, 11, 14, 19), (0, 11, 18, 21)] :: ([14, 36, 172, 173, 174, 421, 447, 477, 478, 479, 480, 481, 482, 483, 484, 485, 486, 508, 509, 510, 511, 528, 830, 831, 960, 961, 962, 963, 1324, 1328, 1329, 1330, 1332] : List Nat).flatMap tg
noncomputable def wsL_keyOf : List Cond := Cond.codeWith yL_keyOf cL_keyOf 5 (some .int) [(0, 11, 14, 21)] :: ([14, 41, 42, 43, 44, 45, 46, 47, 48, 49, 421, 479, 480, 481, 482, 483, 484, 485, 486, 591, 831, 964, 965, 966, 967, 1330, 1332] : List Nat).flatMap tg
noncomputable def wsL_house : List Cond := Cond.codeWith yL_house cL_house 4 (some .int) [(0, 10, 13, 21)] :: ([9, 14, 27, 37, 63, 64, 65, 116, 117, 118, 421, 445, 447, 455, 456, 457, 460, 473, 474, 475, 476, 477, 478, 482, 483, 484, 485, 486, 508, 509, 510, 511, 569, 604, 605, 606, 607, 608, 609, 610, 611, 612, 613, 614, 615, 831, 968, 969, 970, 971, 1322, 1324, 1328, 1329, 1330, 1332] : List Nat).flatMap tg
theorem e_X2_init : tg 22 = [Cond.code yX2_init cX2_init 1 none] := rfl
theorem e_X3_init : tg 17 = [Cond.code yX3_init cX3_init 1 none] := rfl
theorem e_X1_init : tg 29 = [Cond.code yX1_init cX1_init 1 none] := rfl
theorem e_X0_init : tg 459 = [Cond.code yX0_init cX0_init 1 none] := rfl
theorem e_X1_compared : tg 93 = [Cond.code yX1_compared cX1_compared 7 (some .int)] := rfl
theorem e_X1_isFinerThan : tg 136 = [Cond.code yX1_isFinerThan cX1_isFinerThan 4 (some .boolean)] := rfl
theorem e_X1_length : tg 65 = [Cond.code yX1_length cX1_length 1 (some .int)] := rfl
theorem e_X1_keyOn : tg 73 = [Cond.code yX1_keyOn cX1_keyOn 2 (some .int)] := rfl
theorem e_X1_isDownOn : tg 77 = [Cond.code yX1_isDownOn cX1_isDownOn 2 (some .boolean)] := rfl
theorem e_X1_addStep : tg 81 = [Cond.code yX1_addStep cX1_addStep 3 none] := rfl
theorem e_X1_addSteps : tg 69 = [Cond.code yX1_addSteps cX1_addSteps 4 none] := rfl
theorem e_J6_bitCount_0f7a4 : tg 46 = [Cond.code yJ6_bitCount_0f7a4 cJ6_bitCount_0f7a4 1 (some .int)] := rfl
theorem e_X1_numberBy : tg 42 = [Cond.code yX1_numberBy cX1_numberBy 2 (some .int)] := rfl
theorem e_X1_isFirstOfClass : tg 57 = [Cond.code yX1_isFirstOfClass cX1_isFirstOfClass 3 (some .boolean)] := rfl
theorem e_X1_pushBackBehind : tg 61 = [Cond.code yX1_pushBackBehind cX1_pushBackBehind 4 none] := rfl
theorem e_X1_rankAll : tg 53 = [Cond.code yX1_rankAll cX1_rankAll 2 none] := rfl
theorem e_X1_settle : tg 85 = [Cond.code yX1_settle cX1_settle 6 none] := rfl
theorem e_X1_becomeProductOf : tg 141 = [Cond.code yX1_becomeProductOf cX1_becomeProductOf 3 none] := rfl
theorem e_X2_append : tg 114 = [Cond.code yX2_append cX2_append 3 none] := rfl
theorem e_X2_becomeAllValues : tg 110 = [Cond.code yX2_becomeAllValues cX2_becomeAllValues 2 none] := rfl
theorem e_X2_length : tg 118 = [Cond.code yX2_length cX2_length 1 (some .int)] := rfl
theorem e_X2_valueOn : tg 89 = [Cond.code yX2_valueOn cX2_valueOn 2 (some .int)] := rfl
theorem e_X2_markOn : tg 102 = [Cond.code yX2_markOn cX2_markOn 2 (some .int)] := rfl
theorem e_X2_replace : tg 106 = [Cond.code yX2_replace cX2_replace 4 none] := rfl
theorem e_X2_exchange : tg 97 = [Cond.code yX2_exchange cX2_exchange 5 none] := rfl
theorem e_X3_insertEach : tg 122 = [Cond.code yX3_insertEach cX3_insertEach 7 none] := rfl
theorem e_X2_isInSequenceBy : tg 126 = [Cond.code yX2_isInSequenceBy cX2_isInSequenceBy 3 (some .boolean)] := rfl
theorem e_X0_areAlikeAlike : tg 131 = [Cond.code yX0_areAlikeAlike cX0_areAlikeAlike 4 (some .boolean)] := rfl
theorem e_X0_isFinerBySorting : tg 145 = [Cond.code yX0_isFinerBySorting cX0_isFinerBySorting 3 (some .boolean)] := rfl
theorem e_X1_classCount : tg 149 = [Cond.code yX1_classCount cX1_classCount 1 (some .int)] := rfl
theorem e_X0_isRefiningSound : tg 646 = [Cond.code yX0_isRefiningSound cX0_isRefiningSound 4 (some .boolean)] := rfl
theorem e_X2_becomeCopyOf : tg 168 = [Cond.code yX2_becomeCopyOf cX2_becomeCopyOf 4 none] := rfl
theorem e_X2_empty : tg 158 = [Cond.code yX2_empty cX2_empty 1 none] := rfl
theorem e_X3_mergeTwo : tg 162 = [Cond.code yX3_mergeTwo cX3_mergeTwo 11 none] := rfl
theorem e_X3_mergeRuns : tg 179 = [Cond.code yX3_mergeRuns cX3_mergeRuns 7 none] := rfl
theorem e_X1_rankOf : tg 174 = [Cond.code yX1_rankOf cX1_rankOf 2 (some .int)] := rfl
theorem e_X3_gatherByRank : tg 183 = [Cond.code yX3_gatherByRank cX3_gatherByRank 5 none] := rfl
theorem e_X3_arrangeAll : tg 188 = [Cond.code yX3_arrangeAll cX3_arrangeAll 4 none] := rfl
theorem e_X2_isLike : tg 192 = [Cond.code yX2_isLike cX2_isLike 3 (some .boolean)] := rfl
theorem e_X0_isProductAlike : tg 650 = [Cond.code yX0_isProductAlike cX0_isProductAlike 4 (some .boolean)] := rfl
theorem e_X0_areSignsTurned : tg 619 = [Cond.code yX0_areSignsTurned cX0_areSignsTurned 4 (some .boolean)] := rfl
theorem e_X0_isRankOfSome : tg 626 = [Cond.code yX0_isRankOfSome cX0_isRankOfSome 3 (some .boolean)] := rfl
theorem e_X0_areRanksAsClasses : tg 623 = [Cond.code yX0_areRanksAsClasses cX0_areRanksAsClasses 4 (some .boolean)] := rfl
theorem e_X0_areWaysAgreed : tg 630 = [Cond.code yX0_areWaysAgreed cX0_areWaysAgreed 4 (some .boolean)] := rfl
theorem e_X0_staysSorted : tg 634 = [Cond.code yX0_staysSorted cX0_staysSorted 3 (some .boolean)] := rfl
theorem e_X2_reverse : tg 196 = [Cond.code yX2_reverse cX2_reverse 3 none] := rfl
theorem e_X1_becomeCopyOf : tg 201 = [Cond.code yX1_becomeCopyOf cX1_becomeCopyOf 3 none] := rfl
theorem e_X1_reverse : tg 205 = [Cond.code yX1_reverse cX1_reverse 2 none] := rfl
theorem e_X0_isTurnedAlike : tg 638 = [Cond.code yX0_isTurnedAlike cX0_isTurnedAlike 3 (some .boolean)] := rfl
theorem e_X2_firstPlaceBy : tg 209 = [Cond.code yX2_firstPlaceBy cX2_firstPlaceBy 4 (some .int)] := rfl
theorem e_X2_remove : tg 215 = [Cond.code yX2_remove cX2_remove 3 none] := rfl
theorem e_X0_isQueuedAlike : tg 642 = [Cond.code yX0_isQueuedAlike cX0_isQueuedAlike 5 (some .boolean)] := rfl
theorem e_X1_downSteps : tg 589 = [Cond.code yX1_downSteps cX1_downSteps 3 (some .int)] := rfl
theorem e_X1_append : tg 573 = [Cond.code yX1_append cX1_append 3 none] := rfl
theorem e_X1_removeLast : tg 579 = [Cond.code yX1_removeLast cX1_removeLast 1 none] := rfl
theorem e_X1_empty : tg 583 = [Cond.code yX1_empty cX1_empty 1 none] := rfl
theorem e_X1_comparesLike : tg 1253 = [Cond.code yX1_comparesLike cX1_comparesLike 4 (some .boolean)] := rfl
theorem e_J5_init_d00df : tg 418 = [Cond.code yJ5_init_d00df cJ5_init_d00df 2 none] := rfl
theorem e_J4_init_da8c8 : tg 415 = [Cond.code yJ4_init_da8c8 cJ4_init_da8c8 1 none] := rfl
theorem e_J5_length_8abf5 : tg 333 = [Cond.code yJ5_length_8abf5 cJ5_length_8abf5 1 (some .int)] := rfl
theorem e_J4_length_8abf5 : tg 329 = [Cond.code yJ4_length_8abf5 cJ4_length_8abf5 1 (some .int)] := rfl
theorem e_J8_newLength_cabcc : tg 228 = [Cond.code yJ8_newLength_cabcc cJ8_newLength_cabcc 4 (some .int)] := rfl
theorem e_J5_newCapacity_0f7a4 : tg 223 = [Cond.code yJ5_newCapacity_0f7a4 cJ5_newCapacity_0f7a4 6 (some .int)] := rfl
theorem e_J7_copyOf_9075b : tg 239 = [Cond.code yJ7_copyOf_9075b cJ7_copyOf_9075b 3 (some (.array .byte))] := rfl
theorem e_J5_ensureCapacityInternal_d00df : tg 299 = [Cond.code yJ5_ensureCapacityInternal_d00df cJ5_ensureCapacityInternal_d00df 3 none] := rfl
theorem e_J5_isLatin1_aae02 : tg 282 = [Cond.code yJ5_isLatin1_aae02 cJ5_isLatin1_aae02 1 (some .boolean)] := rfl
theorem e_J1_canEncode_fc78d : tg 302 = [Cond.code yJ1_canEncode_fc78d cJ1_canEncode_fc78d 1 (some .boolean)] := rfl
theorem e_J5_append_3fe6f : tg 324 = [Cond.code yJ5_append_3fe6f cJ5_append_3fe6f 2 (some (.object "java/lang/AbstractStringBuilder"))] := rfl
theorem e_J4_append_cf468 : tg 337 = [Cond.code yJ4_append_cf468 cJ4_append_cf468 2 (some (.object "java/lang/StringBuilder"))] := rfl
theorem e_X4_appendGap : tg 422 = [Cond.code yX4_appendGap cX4_appendGap 1 none] := rfl
theorem e_J6_stringSize_0f7a4 : tg 354 = [Cond.code yJ6_stringSize_0f7a4 cJ6_stringSize_0f7a4 4 (some .int)] := rfl
theorem e_J6_getChars_ba4f3 : tg 357 = [Cond.code yJ6_getChars_ba4f3 cJ6_getChars_ba4f3 7 (some .int)] := rfl
theorem e_J5_append_c97b9 : tg 366 = [Cond.code yJ5_append_c97b9 cJ5_append_c97b9 4 (some (.object "java/lang/AbstractStringBuilder"))] := rfl
theorem e_J4_append_bf812 : tg 426 = [Cond.code yJ4_append_bf812 cJ4_append_bf812 2 (some (.object "java/lang/StringBuilder"))] := rfl
theorem e_J5_getValue_6d5f1 : tg 393 = [Cond.code yJ5_getValue_6d5f1 cJ5_getValue_6d5f1 1 (some (.array .byte))] := rfl
theorem e_J7_checkLength_df160 : tg 372 = [Cond.code yJ7_checkLength_df160 cJ7_checkLength_df160 2 none] := rfl
theorem e_J7_copyOfRangeByte_39247 : tg 369 = [Cond.code yJ7_copyOfRangeByte_39247 cJ7_copyOfRangeByte_39247 5 (some (.array .byte))] := rfl
theorem e_J7_copyOfRange_39247 : tg 383 = [Cond.code yJ7_copyOfRange_39247 cJ7_copyOfRange_39247 3 (some (.array .byte))] := rfl
theorem e_J0_init_db425 : tg 406 = [Cond.code yJ0_init_db425 cJ0_init_db425 5 none] := rfl
theorem e_J0_init_81219 : tg 411 = [Cond.code yJ0_init_81219 cJ0_init_81219 2 none] := rfl
theorem e_J4_toString_0e30d : tg 431 = [Cond.code yJ4_toString_0e30d cJ4_toString_0e30d 1 (some (.object "java/lang/String"))] := rfl
theorem e_X1_told : tg 600 = [Cond.code yX1_told cX1_told 3 (some (.object "java/lang/String"))] := rfl
theorem e_X2_insert : tg 472 = [Cond.code yX2_insert cX2_insert 5 none] := rfl
theorem e_X2_placesUnlike : tg 516 = [Cond.code yX2_placesUnlike cX2_placesUnlike 4 (some .int)] := rfl
theorem e_X2_hasAlike : tg 532 = [Cond.code yX2_hasAlike cX2_hasAlike 4 (some .boolean)] := rfl
theorem e_X2_thingsAhead : tg 536 = [Cond.code yX2_thingsAhead cX2_thingsAhead 5 (some .int)] := rfl
theorem e_X2_lastPlaceBy : tg 526 = [Cond.code yX2_lastPlaceBy cX2_lastPlaceBy 4 (some .int)] := rfl
theorem e_X2_isOnSide : tg 543 = [Cond.code yX2_isOnSide cX2_isOnSide 2 (some .boolean)] := rfl
theorem e_X2_isNearer : tg 547 = [Cond.code yX2_isNearer cX2_isNearer 6 (some .boolean)] := rfl
theorem e_X2_nearestPlace : tg 540 = [Cond.code yX2_nearestPlace cX2_nearestPlace 6 (some .int)] := rfl
theorem e_X2_isFirstOfLot : tg 555 = [Cond.code yX2_isFirstOfLot cX2_isFirstOfLot 4 (some .boolean)] := rfl
theorem e_X2_lots : tg 551 = [Cond.code yX2_lots cX2_lots 4 (some .int)] := rfl
theorem e_X2_lotsAhead : tg 559 = [Cond.code yX2_lotsAhead cX2_lotsAhead 5 (some .int)] := rfl
theorem e_X2_told : tg 522 = [Cond.code yX2_told cX2_told 3 (some (.object "java/lang/String"))] := rfl
theorem e_X2_appendLot : tg 442 = [Cond.code yX2_appendLot cX2_appendLot 7 none] := rfl
theorem e_X2_lotsTold : tg 563 = [Cond.code yX2_lotsTold cX2_lotsTold 4 (some (.object "java/lang/String"))] := rfl
theorem e_X4_init : tg 981 = [Cond.code yX4_init cX4_init 2 none] := rfl
theorem e_X4_rowAt : tg 476 = [Cond.code yX4_rowAt cX4_rowAt 3 (some (.object "Orderlattice$Row"))] := rfl
theorem e_X4_demandWithin : tg 484 = [Cond.code yX4_demandWithin cX4_demandWithin 2 none] := rfl
theorem e_X4_demandValue : tg 481 = [Cond.code yX4_demandValue cX4_demandValue 1 none] := rfl
theorem e_X4_refuse : tg 464 = [Cond.code yX4_refuse cX4_refuse 1 (some .int)] := rfl
theorem e_X4_nextMark : tg 468 = [Cond.code yX4_nextMark cX4_nextMark 2 (some .int)] := rfl
theorem e_X4_placeNew : tg 490 = [Cond.code yX4_placeNew cX4_placeNew 5 (some .int)] := rfl
theorem e_X4_put : tg 835 = [Cond.code yX4_put cX4_put 4 (some .int)] := rfl
theorem e_X4_demandGap : tg 493 = [Cond.code yX4_demandGap cX4_demandGap 2 none] := rfl
theorem e_X4_putAt : tg 839 = [Cond.code yX4_putAt cX4_putAt 5 (some .int)] := rfl
theorem e_X4_fill : tg 843 = [Cond.code yX4_fill cX4_fill 7 (some .int)] := rfl
theorem e_X4_demandPlace : tg 497 = [Cond.code yX4_demandPlace cX4_demandPlace 2 none] := rfl
theorem e_X4_drop : tg 847 = [Cond.code yX4_drop cX4_drop 5 (some .int)] := rfl
theorem e_X4_clear : tg 1026 = [Cond.code yX4_clear cX4_clear 4 (some .int)] := rfl
theorem e_X4_copyRow : tg 851 = [Cond.code yX4_copyRow cX4_copyRow 5 (some .int)] := rfl
theorem e_X4_turnRow : tg 855 = [Cond.code yX4_turnRow cX4_turnRow 3 (some .int)] := rfl
theorem e_J9_floorMod_7cf53 : tg 504 = [Cond.code yJ9_floorMod_7cf53 cJ9_floorMod_7cf53 3 (some .int)] := rfl
theorem e_X4_wheel : tg 859 = [Cond.code yX4_wheel cX4_wheel 7 (some .int)] := rfl
theorem e_X4_swap : tg 863 = [Cond.code yX4_swap cX4_swap 5 (some .int)] := rfl
theorem e_X4_orderAt : tg 511 = [Cond.code yX4_orderAt cX4_orderAt 3 (some (.object "Orderlattice$Order"))] := rfl
theorem e_X4_sort : tg 867 = [Cond.code yX4_sort cX4_sort 6 (some .int)] := rfl
theorem e_X4_sortPart : tg 871 = [Cond.code yX4_sortPart cX4_sortPart 7 (some .int)] := rfl
theorem e_X4_isSorted : tg 875 = [Cond.code yX4_isSorted cX4_isSorted 4 (some .boolean)] := rfl
theorem e_X4_size : tg 1087 = [Cond.code yX4_size cX4_size 2 (some .int)] := rfl
theorem e_X4_valueAt : tg 879 = [Cond.code yX4_valueAt cX4_valueAt 4 (some .int)] := rfl
theorem e_X4_markAt : tg 883 = [Cond.code yX4_markAt cX4_markAt 4 (some .int)] := rfl
theorem e_X4_text : tg 887 = [Cond.code yX4_text cX4_text 2 (some (.object "java/lang/String"))] := rfl
theorem e_X4_extreme : tg 891 = [Cond.code yX4_extreme cX4_extreme 7 (some .int)] := rfl
theorem e_X4_search : tg 895 = [Cond.code yX4_search cX4_search 6 (some .int)] := rfl
theorem e_X4_near : tg 899 = [Cond.code yX4_near cX4_near 8 (some .int)] := rfl
theorem e_X4_kinds : tg 903 = [Cond.code yX4_kinds cX4_kinds 4 (some .int)] := rfl
theorem e_X4_ahead : tg 907 = [Cond.code yX4_ahead cX4_ahead 6 (some .int)] := rfl
theorem e_X4_groups : tg 911 = [Cond.code yX4_groups cX4_groups 4 (some (.object "java/lang/String"))] := rfl
theorem e_X4_ranks : tg 915 = [Cond.code yX4_ranks cX4_ranks 9 (some (.object "java/lang/String"))] := rfl
theorem e_X4_step : tg 919 = [Cond.code yX4_step cX4_step 5 (some .int)] := rfl
theorem e_X4_unstep : tg 923 = [Cond.code yX4_unstep cX4_unstep 4 (some .int)] := rfl
theorem e_X4_wipe : tg 927 = [Cond.code yX4_wipe cX4_wipe 4 (some .int)] := rfl
theorem e_X4_copyOrder : tg 931 = [Cond.code yX4_copyOrder cX4_copyOrder 5 (some .int)] := rfl
theorem e_X4_turn : tg 935 = [Cond.code yX4_turn cX4_turn 3 (some .int)] := rfl
theorem e_X4_product : tg 939 = [Cond.code yX4_product cX4_product 7 (some .int)] := rfl
theorem e_X4_coarsestKey : tg 596 = [Cond.code yX4_coarsestKey cX4_coarsestKey 7 (some .int)] := rfl
theorem e_X4_tellApart : tg 943 = [Cond.code yX4_tellApart cX4_tellApart 6 (some .int)] := rfl
theorem e_X4_orderText : tg 947 = [Cond.code yX4_orderText cX4_orderText 2 (some (.object "java/lang/String"))] := rfl
theorem e_X4_compare : tg 951 = [Cond.code yX4_compare cX4_compare 5 (some .int)] := rfl
theorem e_X4_comparedByBoth : tg 603 = [Cond.code yX4_comparedByBoth cX4_comparedByBoth 6 (some .int)] := rfl
theorem e_X4_both : tg 955 = [Cond.code yX4_both cX4_both 7 (some .int)] := rfl
theorem e_X4_refines : tg 1238 = [Cond.code yX4_refines cX4_refines 4 (some .boolean)] := rfl
theorem e_X4_areSame : tg 1249 = [Cond.code yX4_areSame cX4_areSame 4 (some .boolean)] := rfl
theorem e_X4_pairsApart : tg 658 = [Cond.code yX4_pairsApart cX4_pairsApart 5 (some .int)] := rfl
theorem e_X4_apart : tg 959 = [Cond.code yX4_apart cX4_apart 4 (some .int)] := rfl
theorem e_X4_classes : tg 1271 = [Cond.code yX4_classes cX4_classes 2 (some .int)] := rfl
theorem e_X4_rank : tg 963 = [Cond.code yX4_rank cX4_rank 4 (some .int)] := rfl
theorem e_X4_keyOf : tg 967 = [Cond.code yX4_keyOf cX4_keyOf 3 (some .int)] := rfl
theorem e_X4_knock : tg 1297 = [Cond.code yX4_knock cX4_knock 1 (some .int)] := rfl
theorem e_X4_thingsInAll : tg 607 = [Cond.code yX4_thingsInAll cX4_thingsInAll 3 (some .int)] := rfl
theorem e_X4_stepsInAll : tg 611 = [Cond.code yX4_stepsInAll cX4_stepsInAll 3 (some .int)] := rfl
theorem e_X4_count : tg 615 = [Cond.code yX4_count cX4_count 2 (some .int)] := rfl
theorem e_X4_house : tg 971 = [Cond.code yX4_house cX4_house 2 (some .int)] := rfl
theorem e_X4_isSound : tg 680 = [Cond.code yX4_isSound cX4_isSound 7 (some .boolean)] := rfl
theorem e_X4_mixed : tg 653 = [Cond.code yX4_mixed cX4_mixed 3 (some .long)] := rfl
theorem e_X4_mixedWithRows : tg 664 = [Cond.code yX4_mixedWithRows cX4_mixedWithRows 8 (some .long)] := rfl
theorem e_X4_mixedWithOrders : tg 668 = [Cond.code yX4_mixedWithOrders cX4_mixedWithOrders 8 (some .long)] := rfl
theorem e_X4_mixedWithPairs : tg 672 = [Cond.code yX4_mixedWithPairs cX4_mixedWithPairs 7 (some .long)] := rfl
theorem e_X4_mixedWithSequences : tg 676 = [Cond.code yX4_mixedWithSequences cX4_mixedWithSequences 7 (some .long)] := rfl
theorem e_X4_digest : tg 1317 = [Cond.code yX4_digest cX4_digest 4 (some .long)] := rfl
theorem e_X5_init : tg 989 = [Cond.code yX5_init cX5_init 1 none] := rfl
theorem e_X6_init : tg 984 = [Cond.code yX6_init cX6_init 1 none] := rfl
theorem e_X6_thrown : tg 1286 = [Cond.code yX6_thrown cX6_thrown 1 (some .int)] := rfl
theorem e_X6_refuse : tg 697 = [Cond.code yX6_refuse cX6_refuse 3 (some .boolean)] := rfl
theorem e_X6_start : tg 692 = [Cond.code yX6_start cX6_start 3 (some .boolean)] := rfl
theorem e_X6_isNo : tg 688 = [Cond.code yX6_isNo cX6_isNo 2 (some .boolean)] := rfl
theorem e_X6_isNoRow : tg 685 = [Cond.code yX6_isNoRow cX6_isNoRow 1 (some .boolean)] := rfl
theorem e_X6_isNoOrder : tg 715 = [Cond.code yX6_isNoOrder cX6_isNoOrder 1 (some .boolean)] := rfl
theorem e_X6_isNoValue : tg 700 = [Cond.code yX6_isNoValue cX6_isNoValue 1 (some .boolean)] := rfl
theorem e_X6_no : tg 704 = [Cond.code yX6_no cX6_no 1 (some .int)] := rfl
theorem e_X6_keyNow : tg 729 = [Cond.code yX6_keyNow cX6_keyNow 2 (some .int)] := rfl
theorem e_X6_compareNow : tg 723 = [Cond.code yX6_compareNow cX6_compareNow 7 (some .int)] := rfl
theorem e_X6_isFirst : tg 790 = [Cond.code yX6_isFirst cX6_isFirst 4 (some .boolean)] := rfl
theorem e_X6_classesNow : tg 810 = [Cond.code yX6_classesNow cX6_classesNow 4 (some .int)] := rfl
theorem e_X6_rankNow : tg 786 = [Cond.code yX6_rankNow cX6_rankNow 5 (some .int)] := rfl
theorem e_X6_isRefined : tg 818 = [Cond.code yX6_isRefined cX6_isRefined 5 (some .boolean)] := rfl
theorem e_X6_bothNow : tg 814 = [Cond.code yX6_bothNow cX6_bothNow 7 (some .int)] := rfl
theorem e_X6_apartNow : tg 822 = [Cond.code yX6_apartNow cX6_apartNow 6 (some .int)] := rfl
theorem e_X6_at : tg 709 = [Cond.code yX6_at cX6_at 5 (some .int)] := rfl
theorem e_X6_put : tg 998 = [Cond.code yX6_put cX6_put 3 (some .int)] := rfl
theorem e_X6_putAt : tg 1005 = [Cond.code yX6_putAt cX6_putAt 4 (some .int)] := rfl
theorem e_X6_fill : tg 1012 = [Cond.code yX6_fill cX6_fill 6 (some .int)] := rfl
theorem e_X6_drop : tg 1019 = [Cond.code yX6_drop cX6_drop 5 (some .int)] := rfl
theorem e_X6_clear : tg 1031 = [Cond.code yX6_clear cX6_clear 3 (some .int)] := rfl
theorem e_X6_copyRow : tg 1038 = [Cond.code yX6_copyRow cX6_copyRow 4 (some .int)] := rfl
theorem e_X6_change : tg 733 = [Cond.code yX6_change cX6_change 6 none] := rfl
theorem e_X6_turnRow : tg 1045 = [Cond.code yX6_turnRow cX6_turnRow 4 (some .int)] := rfl
theorem e_X6_wheel : tg 1052 = [Cond.code yX6_wheel cX6_wheel 7 (some .int)] := rfl
theorem e_X6_swap : tg 1059 = [Cond.code yX6_swap cX6_swap 4 (some .int)] := rfl
theorem e_X6_sorted : tg 719 = [Cond.code yX6_sorted cX6_sorted 8 (some .int)] := rfl
theorem e_X6_sort : tg 1066 = [Cond.code yX6_sort cX6_sort 4 (some .int)] := rfl
theorem e_X6_sortPart : tg 1073 = [Cond.code yX6_sortPart cX6_sortPart 5 (some .int)] := rfl
theorem e_X6_isInSequence : tg 737 = [Cond.code yX6_isInSequence cX6_isInSequence 4 (some .boolean)] := rfl
theorem e_X6_isSorted : tg 1080 = [Cond.code yX6_isSorted cX6_isSorted 3 (some .boolean)] := rfl
theorem e_X6_size : tg 1091 = [Cond.code yX6_size cX6_size 2 (some .int)] := rfl
theorem e_X6_valueAt : tg 1098 = [Cond.code yX6_valueAt cX6_valueAt 3 (some .int)] := rfl
theorem e_X6_markAt : tg 1105 = [Cond.code yX6_markAt cX6_markAt 3 (some .int)] := rfl
theorem e_J0_coder_7d493 : tg 744 = [Cond.code yJ0_coder_7d493 cJ0_coder_7d493 1 (some .byte)] := rfl
theorem e_J0_length_8abf5 : tg 765 = [Cond.code yJ0_length_8abf5 cJ0_length_8abf5 1 (some .int)] := rfl
theorem e_J5_inflateIfNeededFor_a7421 : tg 752 = [Cond.code yJ5_inflateIfNeededFor_a7421 cJ5_inflateIfNeededFor_a7421 2 none] := rfl
theorem e_J0_getBytes_840e7 : tg 756 = [Cond.code yJ0_getBytes_840e7 cJ0_getBytes_840e7 4 none] := rfl
theorem e_J5_putStringAt_47b60 : tg 770 = [Cond.code yJ5_putStringAt_47b60 cJ5_putStringAt_47b60 3 none] := rfl
theorem e_J5_append_cf1ce : tg 774 = [Cond.code yJ5_append_cf1ce cJ5_append_cf1ce 3 (some (.object "java/lang/AbstractStringBuilder"))] := rfl
theorem e_J4_append_15ec4 : tg 780 = [Cond.code yJ4_append_15ec4 cJ4_append_15ec4 2 (some (.object "java/lang/StringBuilder"))] := rfl
theorem e_X6_text : tg 1112 = [Cond.code yX6_text cX6_text 4 (some (.object "java/lang/String"))] := rfl
theorem e_X6_extreme : tg 1119 = [Cond.code yX6_extreme cX6_extreme 7 (some .int)] := rfl
theorem e_X6_search : tg 1126 = [Cond.code yX6_search cX6_search 7 (some .int)] := rfl
theorem e_X6_near : tg 1133 = [Cond.code yX6_near cX6_near 10 (some .int)] := rfl
theorem e_X6_isFirstOf : tg 798 = [Cond.code yX6_isFirstOf cX6_isFirstOf 5 (some .boolean)] := rfl
theorem e_X6_kindsNow : tg 794 = [Cond.code yX6_kindsNow cX6_kindsNow 5 (some .int)] := rfl
theorem e_X6_kinds : tg 1140 = [Cond.code yX6_kinds cX6_kinds 3 (some .int)] := rfl
theorem e_X6_ahead : tg 1147 = [Cond.code yX6_ahead cX6_ahead 6 (some .int)] := rfl
theorem e_J0_isEmpty_aae02 : tg 802 = [Cond.code yJ0_isEmpty_aae02 cJ0_isEmpty_aae02 1 (some .boolean)] := rfl
theorem e_X6_groups : tg 1154 = [Cond.code yX6_groups cX6_groups 8 (some (.object "java/lang/String"))] := rfl
theorem e_X6_ranks : tg 1161 = [Cond.code yX6_ranks cX6_ranks 8 (some (.object "java/lang/String"))] := rfl
theorem e_X6_add : tg 806 = [Cond.code yX6_add cX6_add 4 none] := rfl
theorem e_X6_step : tg 1168 = [Cond.code yX6_step cX6_step 4 (some .int)] := rfl
theorem e_X6_unstep : tg 1175 = [Cond.code yX6_unstep cX6_unstep 2 (some .int)] := rfl
theorem e_X6_wipe : tg 1182 = [Cond.code yX6_wipe cX6_wipe 3 (some .int)] := rfl
theorem e_X6_copyOrder : tg 1189 = [Cond.code yX6_copyOrder cX6_copyOrder 4 (some .int)] := rfl
theorem e_X6_turn : tg 1196 = [Cond.code yX6_turn cX6_turn 4 (some .int)] := rfl
theorem e_X6_product : tg 1203 = [Cond.code yX6_product cX6_product 9 (some .int)] := rfl
theorem e_X6_tellApart : tg 1210 = [Cond.code yX6_tellApart cX6_tellApart 8 (some .int)] := rfl
theorem e_X6_orderText : tg 1217 = [Cond.code yX6_orderText cX6_orderText 4 (some (.object "java/lang/String"))] := rfl
theorem e_X6_compare : tg 1224 = [Cond.code yX6_compare cX6_compare 4 (some .int)] := rfl
theorem e_X6_both : tg 1231 = [Cond.code yX6_both cX6_both 5 (some .int)] := rfl
theorem e_X6_refines : tg 1242 = [Cond.code yX6_refines cX6_refines 3 (some .boolean)] := rfl
theorem e_X6_areSame : tg 1257 = [Cond.code yX6_areSame cX6_areSame 5 (some .boolean)] := rfl
theorem e_X6_apart : tg 1264 = [Cond.code yX6_apart cX6_apart 3 (some .int)] := rfl
theorem e_X6_classes : tg 1275 = [Cond.code yX6_classes cX6_classes 2 (some .int)] := rfl
theorem e_X6_rank : tg 1282 = [Cond.code yX6_rank cX6_rank 3 (some .int)] := rfl
theorem e_X6_keyOf : tg 1293 = [Cond.code yX6_keyOf cX6_keyOf 3 (some .int)] := rfl
theorem e_X6_knock : tg 1301 = [Cond.code yX6_knock cX6_knock 1 (some .int)] := rfl
theorem e_X6_houseNow : tg 828 = [Cond.code yX6_houseNow cX6_houseNow 8 (some .int)] := rfl
theorem e_X6_house : tg 1308 = [Cond.code yX6_house cX6_house 2 (some .int)] := rfl
theorem e_X6_isSound : tg 1313 = [Cond.code yX6_isSound cX6_isSound 1 (some .boolean)] := rfl
theorem e_X6_digest : tg 1321 = [Cond.code yX6_digest cX6_digest 5 (some .long)] := rfl
theorem e_L_put : tg 994 = [Cond.codeWith yL_put cL_put 5 (some .int) [(0, 11, 14, 19), (0, 11, 18, 21)]] := rfl
theorem e_L_putAt : tg 1001 = [Cond.codeWith yL_putAt cL_putAt 6 (some .int) [(0, 13, 16, 19), (0, 13, 20, 21)]] := rfl
theorem e_L_fill : tg 1008 = [Cond.codeWith yL_fill cL_fill 7 (some .int) [(0, 15, 18, 19), (0, 15, 22, 21)]] := rfl
theorem e_L_drop : tg 1015 = [Cond.codeWith yL_drop cL_drop 5 (some .int) [(0, 11, 14, 19)]] := rfl
theorem e_L_clear : tg 1022 = [Cond.codeWith yL_clear cL_clear 4 (some .int) [(0, 10, 13, 19)]] := rfl
theorem e_L_copyRow : tg 1034 = [Cond.codeWith yL_copyRow cL_copyRow 5 (some .int) [(0, 11, 14, 19)]] := rfl
theorem e_L_turnRow : tg 1041 = [Cond.codeWith yL_turnRow cL_turnRow 4 (some .int) [(0, 10, 13, 19)]] := rfl
theorem e_L_wheel : tg 1048 = [Cond.codeWith yL_wheel cL_wheel 5 (some .int) [(0, 11, 14, 19)]] := rfl
theorem e_L_swap : tg 1055 = [Cond.codeWith yL_swap cL_swap 6 (some .int) [(0, 13, 16, 19)]] := rfl
theorem e_L_sort : tg 1062 = [Cond.codeWith yL_sort cL_sort 6 (some .int) [(0, 13, 16, 19), (0, 13, 20, 21)]] := rfl
theorem e_L_sortPart : tg 1069 = [Cond.codeWith yL_sortPart cL_sortPart 7 (some .int) [(0, 15, 18, 19), (0, 15, 22, 21)]] := rfl
theorem e_L_isSorted : tg 1076 = [Cond.codeWith yL_isSorted cL_isSorted 5 (some .int) [(0, 18, 21, 19)]] := rfl
theorem e_L_size : tg 1083 = [Cond.codeWith yL_size cL_size 4 (some .int) [(0, 10, 13, 19)]] := rfl
theorem e_L_valueAt : tg 1094 = [Cond.codeWith yL_valueAt cL_valueAt 5 (some .int) [(0, 11, 14, 19)]] := rfl
theorem e_L_markAt : tg 1101 = [Cond.codeWith yL_markAt cL_markAt 5 (some .int) [(0, 11, 14, 19)]] := rfl
theorem e_L_text : tg 1108 = [Cond.codeWith yL_text cL_text 4 (some .int) [(0, 9, 12, 19)]] := rfl
theorem e_L_extreme : tg 1115 = [Cond.codeWith yL_extreme cL_extreme 6 (some .int) [(0, 13, 16, 19)]] := rfl
theorem e_L_search : tg 1122 = [Cond.codeWith yL_search cL_search 6 (some .int) [(0, 13, 16, 19), (0, 13, 20, 21)]] := rfl
theorem e_L_near : tg 1129 = [Cond.codeWith yL_near cL_near 7 (some .int) [(0, 15, 18, 19), (0, 15, 22, 21)]] := rfl
theorem e_L_kinds : tg 1136 = [Cond.codeWith yL_kinds cL_kinds 5 (some .int) [(0, 11, 14, 19)]] := rfl
theorem e_L_ahead : tg 1143 = [Cond.codeWith yL_ahead cL_ahead 6 (some .int) [(0, 13, 16, 19), (0, 13, 20, 21)]] := rfl
theorem e_L_groups : tg 1150 = [Cond.codeWith yL_groups cL_groups 5 (some .int) [(0, 10, 13, 19)]] := rfl
theorem e_L_ranks : tg 1157 = [Cond.codeWith yL_ranks cL_ranks 6 (some .int) [(0, 12, 15, 19)]] := rfl
theorem e_L_step : tg 1164 = [Cond.codeWith yL_step cL_step 6 (some .int) [(0, 13, 16, 19), (0, 13, 20, 21)]] := rfl
theorem e_L_unstep : tg 1171 = [Cond.codeWith yL_unstep cL_unstep 4 (some .int) [(0, 10, 13, 19)]] := rfl
theorem e_L_wipe : tg 1178 = [Cond.codeWith yL_wipe cL_wipe 4 (some .int) [(0, 10, 13, 19)]] := rfl
theorem e_L_copyOrder : tg 1185 = [Cond.codeWith yL_copyOrder cL_copyOrder 5 (some .int) [(0, 11, 14, 19)]] := rfl
theorem e_L_turn : tg 1192 = [Cond.codeWith yL_turn cL_turn 4 (some .int) [(0, 10, 13, 19)]] := rfl
theorem e_L_product : tg 1199 = [Cond.codeWith yL_product cL_product 6 (some .int) [(0, 13, 16, 19)]] := rfl
theorem e_L_tellApart : tg 1206 = [Cond.codeWith yL_tellApart cL_tellApart 6 (some .int) [(0, 13, 16, 19), (0, 13, 20, 21)]] := rfl
theorem e_L_orderText : tg 1213 = [Cond.codeWith yL_orderText cL_orderText 4 (some .int) [(0, 9, 12, 19)]] := rfl
theorem e_L_compare : tg 1220 = [Cond.codeWith yL_compare cL_compare 6 (some .int) [(0, 13, 16, 19), (0, 13, 20, 21)]] := rfl
theorem e_L_both : tg 1227 = [Cond.codeWith yL_both cL_both 7 (some .int) [(0, 15, 18, 19), (0, 15, 22, 21)]] := rfl
theorem e_L_refines : tg 1234 = [Cond.codeWith yL_refines cL_refines 5 (some .int) [(0, 18, 21, 19)]] := rfl
theorem e_L_areSame : tg 1245 = [Cond.codeWith yL_areSame cL_areSame 5 (some .int) [(0, 18, 21, 19)]] := rfl
theorem e_L_apart : tg 1260 = [Cond.codeWith yL_apart cL_apart 5 (some .int) [(0, 11, 14, 19)]] := rfl
theorem e_L_classes : tg 1267 = [Cond.codeWith yL_classes cL_classes 4 (some .int) [(0, 10, 13, 19)]] := rfl
theorem e_L_rank : tg 1278 = [Cond.codeWith yL_rank cL_rank 5 (some .int) [(0, 11, 14, 19), (0, 11, 18, 21)]] := rfl
theorem e_L_keyOf : tg 1289 = [Cond.codeWith yL_keyOf cL_keyOf 5 (some .int) [(0, 11, 14, 21)]] := rfl
theorem e_L_house : tg 1304 = [Cond.codeWith yL_house cL_house 4 (some .int) [(0, 10, 13, 21)]] := rfl
abbrev vwCl : List vw_C := [(RJ0, TJ0, 4), (RJ4, TJ4, 4), (RX0, TX0, 4), (RX1, TX1, 6), (RX2, TX2, 3), (RX3, TX3, 1), (RX4, TX4, 9), (RX5, TX5, 2), (RX6, TX6, 10)]
/-- r over A from p answers what r' over B from p + k does -/
def wnR (A B : ByteArray) (k : Nat) {α : Type} (r r' : Jvm.ClassFile.Decoder α) : Prop := ∀ (p : Nat) (a : α) (q : Nat), r A p = .ok (a, q) → r' B (p + k) = .ok (a, q + k)
/-- A is the piece of B from k on -/
def wnW (A B : ByteArray) (k : Nat) : Prop := ∀ (i : Nat) (h : i < A.size), ∃ h' : i + k < B.size, B[i + k] = A[i]
theorem wnP {A B : ByteArray} {k : Nat} {α : Type} (a : α) : wnR A B k (pure a : Jvm.ClassFile.Decoder α) (pure a) := fun p b q h => by
  have h' : (Except.ok (a, p) : Except Jvm.ClassFile.DecodeError (α × Nat)) = .ok (b, q) := h
  cases h'
  rfl
theorem wnT {A B : ByteArray} {k : Nat} {α : Type} (e : Jvm.ClassFile.DecodeError) (r' : Jvm.ClassFile.Decoder α) : wnR A B k (throw e : Jvm.ClassFile.Decoder α) r' := fun p b q h => by
  have h' : (Except.error e : Except Jvm.ClassFile.DecodeError (α × Nat)) = .ok (b, q) := h
  cases h'
theorem wnE {α β : Type} (x : Jvm.ClassFile.Decoder α) (f : α → Jvm.ClassFile.Decoder β) (C : ByteArray) (s : Nat) : (x >>= f) C s = (match x C s with | .error e => .error e | .ok y => f y.1 C y.2) := by
  show Except.bind (x C s) (fun y => f y.1 C y.2) = _
  cases x C s <;> rfl
theorem wnB {A B : ByteArray} {k : Nat} {α β : Type} {r r' : Jvm.ClassFile.Decoder α} {f f' : α → Jvm.ClassFile.Decoder β} (hr : wnR A B k r r') (hf : ∀ a, wnR A B k (f a) (f' a)) : wnR A B k (r >>= f) (r' >>= f') := by
  intro p b q h
  rw [wnE r f A p] at h
  rw [wnE r' f' B (p + k)]
  cases e : r A p with
  | error x => rw [e] at h; cases h
  | ok y =>
    rw [e] at h
    rw [hr p y.1 y.2 e]
    exact hf y.1 y.2 b q h
theorem wnM {A B : ByteArray} {k : Nat} {α β : Type} {r r' : Jvm.ClassFile.Decoder α} (g : α → β) (h : wnR A B k r r') : wnR A B k (g <$> r) (g <$> r') := by
  have e : ∀ x : Jvm.ClassFile.Decoder α, (g <$> x) = (x >>= fun a => (pure (g a) : Jvm.ClassFile.Decoder β)) := fun x => rfl
  rw [e r, e r']
  exact wnB h (fun _ => wnP _)
theorem wnU1e (C : ByteArray) (i : Nat) (h : i < C.size) : (Jvm.ClassFile.Reader.u1 : Jvm.ClassFile.Decoder Nat) C i = .ok (C[i].toNat, i + 1) := by
  show (dite (i < C.size) (fun h => (do set (i + 1); pure C[i].toNat : Jvm.ClassFile.Decoder Nat)) (fun _ => throw (Jvm.ClassFile.HasTruncated.truncated i))) C i = _
  rw [dif_pos h]
  rfl
theorem wnU0e (C : ByteArray) (i : Nat) (h : ¬ i < C.size) : (Jvm.ClassFile.Reader.u1 : Jvm.ClassFile.Decoder Nat) C i = .error (Jvm.ClassFile.HasTruncated.truncated i) := by
  show (dite (i < C.size) (fun h => (do set (i + 1); pure C[i].toNat : Jvm.ClassFile.Decoder Nat)) (fun _ => throw (Jvm.ClassFile.HasTruncated.truncated i))) C i = _
  rw [dif_neg h]
  rfl
theorem wnU1 {A B : ByteArray} {k : Nat} (hw : wnW A B k) : wnR A B k (Jvm.ClassFile.Reader.u1 : Jvm.ClassFile.Decoder Nat) Jvm.ClassFile.Reader.u1 := by
  intro p a q h
  by_cases hp : p < A.size
  · rw [wnU1e A p hp] at h
    obtain ⟨h', e⟩ := hw p hp
    rw [wnU1e B (p + k) h', e]
    cases h
    rw [Nat.add_right_comm]
  · rw [wnU0e A p hp] at h
    cases h
theorem wnU2 {A B : ByteArray} {k : Nat} (hw : wnW A B k) : wnR A B k (Jvm.ClassFile.Reader.u2 : Jvm.ClassFile.Decoder Nat) Jvm.ClassFile.Reader.u2 := wnB (wnU1 hw) fun _ => wnB (wnU1 hw) fun _ => wnP _
theorem wnU4 {A B : ByteArray} {k : Nat} (hw : wnW A B k) : wnR A B k (Jvm.ClassFile.Reader.u4 : Jvm.ClassFile.Decoder Nat) Jvm.ClassFile.Reader.u4 := wnB (wnU2 hw) fun _ => wnB (wnU2 hw) fun _ => wnP _
theorem wnS1 {A B : ByteArray} {k : Nat} (hw : wnW A B k) : wnR A B k (Jvm.ClassFile.Reader.s1 : Jvm.ClassFile.Decoder Int) Jvm.ClassFile.Reader.s1 := wnM _ (wnU1 hw)
theorem wnS2 {A B : ByteArray} {k : Nat} (hw : wnW A B k) : wnR A B k (Jvm.ClassFile.Reader.s2 : Jvm.ClassFile.Decoder Int) Jvm.ClassFile.Reader.s2 := wnM _ (wnU2 hw)
theorem wnS4 {A B : ByteArray} {k : Nat} (hw : wnW A B k) : wnR A B k (Jvm.ClassFile.Reader.s4 : Jvm.ClassFile.Decoder Int) Jvm.ClassFile.Reader.s4 := wnM _ (wnU4 hw)
def wnOk (o : Nat) : Bool := [170, 171, 185, 186, 188, 196, 197].all (fun x => o != x)
theorem wnBU {A B : ByteArray} {k : Nat} (hw : wnW A B k) {β : Type} {f f' : Nat → Jvm.ClassFile.Decoder β} (hf : ∀ o, o < 256 → wnOk o = true → wnR A B k (f o) (f' o)) {p : Nat} {a : β} {q : Nat} (hp : p < A.size) (ho : wnOk A[p].toNat = true) (h : (Jvm.ClassFile.Reader.u1 >>= f) A p = .ok (a, q)) : (Jvm.ClassFile.Reader.u1 >>= f') B (p + k) = .ok (a, q + k) := by
  obtain ⟨h', e⟩ := hw p hp
  rw [wnE _ f A p, wnU1e A p hp] at h
  rw [wnE _ f' B (p + k), wnU1e B (p + k) h', e]
  show f' A[p].toNat B (p + k + 1) = _
  rw [Nat.add_right_comm p k 1]
  exact hf _ (UInt8.toNat_lt _) ho (p + 1) a q h
theorem wnC {P : Nat → Prop} {x : Nat} {l : List Nat} (h : P x) (hl : ∀ y ∈ l, P y) : ∀ y ∈ x :: l, P y := fun y hy => by
  rcases List.mem_cons.mp hy with e | e
  · rw [e]; exact h
  · exact hl y e
theorem wnN {P : Nat → Prop} : ∀ y ∈ ([] : List Nat), P y := fun y hy => absurd hy List.not_mem_nil
set_option maxRecDepth 16384 in
set_option maxHeartbeats 4000000 in
theorem wnIns {A B : ByteArray} {k : Nat} (hw : wnW A B k) (pc pc' : Nat) {p : Nat} {a : Jvm.ClassFile.Instr} {q : Nat} (hp : p < A.size) (ho : wnOk A[p].toNat = true) (h : Jvm.ClassFile.Decoder.instr pc A p = .ok (a, q)) : Jvm.ClassFile.Decoder.instr pc' B (p + k) = .ok (a, q + k) := by
  delta Jvm.ClassFile.Decoder.instr at h ⊢
  refine wnBU hw ?_ hp ho h
  intro o ho
  have hm : o ∈ [0, 1, 2, 3, 4, 5, 6, 7, 8, 9, 10, 11, 12, 13, 14, 15, 16, 17, 18, 19, 20, 21, 22, 23, 24, 25, 26, 27, 28, 29, 30, 31, 32, 33, 34, 35, 36, 37, 38, 39, 40, 41, 42, 43, 44, 45, 46, 47, 48, 49, 50, 51, 52, 53, 54, 55, 56, 57, 58, 59, 60, 61, 62, 63, 64, 65, 66, 67, 68, 69, 70, 71, 72, 73, 74, 75, 76, 77, 78, 79, 80, 81, 82, 83, 84, 85, 86, 87, 88, 89, 90, 91, 92, 93, 94, 95, 96, 97, 98, 99, 100, 101, 102, 103, 104, 105, 106, 107, 108, 109, 110, 111, 112, 113, 114, 115, 116, 117, 118, 119, 120, 121, 122, 123, 124, 125, 126, 127, 128, 129, 130, 131, 132, 133, 134, 135, 136, 137, 138, 139, 140, 141, 142, 143, 144, 145, 146, 147, 148, 149, 150, 151, 152, 153, 154, 155, 156, 157, 158, 159, 160, 161, 162, 163, 164, 165, 166, 167, 168, 169, 170, 171, 172, 173, 174, 175, 176, 177, 178, 179, 180, 181, 182, 183, 184, 185, 186, 187, 188, 189, 190, 191, 192, 193, 194, 195, 196, 197, 198, 199, 200, 201, 202, 203, 204, 205, 206, 207, 208, 209, 210, 211, 212, 213, 214, 215, 216, 217, 218, 219, 220, 221, 222, 223, 224, 225, 226, 227, 228, 229, 230, 231, 232, 233, 234, 235, 236, 237, 238, 239, 240, 241, 242, 243, 244, 245, 246, 247, 248, 249, 250, 251, 252, 253, 254, 255] := by
    have h0 : o ∈ List.range 256 := List.mem_range.mpr ho
    exact h0
  clear ho
  revert o
  refine wnC (fun _ => wnP _) ?_
  refine wnC (fun _ => wnP _) ?_
  refine wnC (fun _ => wnP _) ?_
  refine wnC (fun _ => wnP _) ?_
  refine wnC (fun _ => wnP _) ?_
  refine wnC (fun _ => wnP _) ?_
  refine wnC (fun _ => wnP _) ?_
  refine wnC (fun _ => wnP _) ?_
  refine wnC (fun _ => wnP _) ?_
  refine wnC (fun _ => wnP _) ?_
  refine wnC (fun _ => wnP _) ?_
  refine wnC (fun _ => wnP _) ?_
  refine wnC (fun _ => wnP _) ?_
  refine wnC (fun _ => wnP _) ?_
  refine wnC (fun _ => wnP _) ?_
  refine wnC (fun _ => wnP _) ?_
  refine wnC (fun _ => wnB (wnS1 hw) fun _ => wnP _) ?_
  refine wnC (fun _ => wnB (wnS2 hw) fun _ => wnP _) ?_
  refine wnC (fun _ => wnB (wnU1 hw) fun _ => wnP _) ?_
  refine wnC (fun _ => wnB (wnU2 hw) fun _ => wnP _) ?_
  refine wnC (fun _ => wnB (wnU2 hw) fun _ => wnP _) ?_
  refine wnC (fun _ => wnB (wnU1 hw) fun _ => wnP _) ?_
  refine wnC (fun _ => wnB (wnU1 hw) fun _ => wnP _) ?_
  refine wnC (fun _ => wnB (wnU1 hw) fun _ => wnP _) ?_
  refine wnC (fun _ => wnB (wnU1 hw) fun _ => wnP _) ?_
  refine wnC (fun _ => wnB (wnU1 hw) fun _ => wnP _) ?_
  refine wnC (fun _ => wnP _) ?_
  refine wnC (fun _ => wnP _) ?_
  refine wnC (fun _ => wnP _) ?_
  refine wnC (fun _ => wnP _) ?_
  refine wnC (fun _ => wnP _) ?_
  refine wnC (fun _ => wnP _) ?_
  refine wnC (fun _ => wnP _) ?_
  refine wnC (fun _ => wnP _) ?_
  refine wnC (fun _ => wnP _) ?_
  refine wnC (fun _ => wnP _) ?_
  refine wnC (fun _ => wnP _) ?_
  refine wnC (fun _ => wnP _) ?_
  refine wnC (fun _ => wnP _) ?_
  refine wnC (fun _ => wnP _) ?_
  refine wnC (fun _ => wnP _) ?_
  refine wnC (fun _ => wnP _) ?_
  refine wnC (fun _ => wnP _) ?_
  refine wnC (fun _ => wnP _) ?_
  refine wnC (fun _ => wnP _) ?_
  refine wnC (fun _ => wnP _) ?_
  refine wnC (fun _ => wnP _) ?_
  refine wnC (fun _ => wnP _) ?_
  refine wnC (fun _ => wnP _) ?_
  refine wnC (fun _ => wnP _) ?_
  refine wnC (fun _ => wnP _) ?_
  refine wnC (fun _ => wnP _) ?_
  refine wnC (fun _ => wnP _) ?_
  refine wnC (fun _ => wnP _) ?_
  refine wnC (fun _ => wnB (wnU1 hw) fun _ => wnP _) ?_
  refine wnC (fun _ => wnB (wnU1 hw) fun _ => wnP _) ?_
  refine wnC (fun _ => wnB (wnU1 hw) fun _ => wnP _) ?_
  refine wnC (fun _ => wnB (wnU1 hw) fun _ => wnP _) ?_
  refine wnC (fun _ => wnB (wnU1 hw) fun _ => wnP _) ?_
  refine wnC (fun _ => wnP _) ?_
  refine wnC (fun _ => wnP _) ?_
  refine wnC (fun _ => wnP _) ?_
  refine wnC (fun _ => wnP _) ?_
  refine wnC (fun _ => wnP _) ?_
  refine wnC (fun _ => wnP _) ?_
  refine wnC (fun _ => wnP _) ?_
  refine wnC (fun _ => wnP _) ?_
  refine wnC (fun _ => wnP _) ?_
  refine wnC (fun _ => wnP _) ?_
  refine wnC (fun _ => wnP _) ?_
  refine wnC (fun _ => wnP _) ?_
  refine wnC (fun _ => wnP _) ?_
  refine wnC (fun _ => wnP _) ?_
  refine wnC (fun _ => wnP _) ?_
  refine wnC (fun _ => wnP _) ?_
  refine wnC (fun _ => wnP _) ?_
  refine wnC (fun _ => wnP _) ?_
  refine wnC (fun _ => wnP _) ?_
  refine wnC (fun _ => wnP _) ?_
  refine wnC (fun _ => wnP _) ?_
  refine wnC (fun _ => wnP _) ?_
  refine wnC (fun _ => wnP _) ?_
  refine wnC (fun _ => wnP _) ?_
  refine wnC (fun _ => wnP _) ?_
  refine wnC (fun _ => wnP _) ?_
  refine wnC (fun _ => wnP _) ?_
  refine wnC (fun _ => wnP _) ?_
  refine wnC (fun _ => wnP _) ?_
  refine wnC (fun _ => wnP _) ?_
  refine wnC (fun _ => wnP _) ?_
  refine wnC (fun _ => wnP _) ?_
  refine wnC (fun _ => wnP _) ?_
  refine wnC (fun _ => wnP _) ?_
  refine wnC (fun _ => wnP _) ?_
  refine wnC (fun _ => wnP _) ?_
  refine wnC (fun _ => wnP _) ?_
  refine wnC (fun _ => wnP _) ?_
  refine wnC (fun _ => wnP _) ?_
  refine wnC (fun _ => wnP _) ?_
  refine wnC (fun _ => wnP _) ?_
  refine wnC (fun _ => wnP _) ?_
  refine wnC (fun _ => wnP _) ?_
  refine wnC (fun _ => wnP _) ?_
  refine wnC (fun _ => wnP _) ?_
  refine wnC (fun _ => wnP _) ?_
  refine wnC (fun _ => wnP _) ?_
  refine wnC (fun _ => wnP _) ?_
  refine wnC (fun _ => wnP _) ?_
  refine wnC (fun _ => wnP _) ?_
  refine wnC (fun _ => wnP _) ?_
  refine wnC (fun _ => wnP _) ?_
  refine wnC (fun _ => wnP _) ?_
  refine wnC (fun _ => wnP _) ?_
  refine wnC (fun _ => wnP _) ?_
  refine wnC (fun _ => wnP _) ?_
  refine wnC (fun _ => wnP _) ?_
  refine wnC (fun _ => wnP _) ?_
  refine wnC (fun _ => wnP _) ?_
  refine wnC (fun _ => wnP _) ?_
  refine wnC (fun _ => wnP _) ?_
  refine wnC (fun _ => wnP _) ?_
  refine wnC (fun _ => wnP _) ?_
  refine wnC (fun _ => wnP _) ?_
  refine wnC (fun _ => wnP _) ?_
  refine wnC (fun _ => wnP _) ?_
  refine wnC (fun _ => wnP _) ?_
  refine wnC (fun _ => wnP _) ?_
  refine wnC (fun _ => wnP _) ?_
  refine wnC (fun _ => wnP _) ?_
  refine wnC (fun _ => wnP _) ?_
  refine wnC (fun _ => wnP _) ?_
  refine wnC (fun _ => wnP _) ?_
  refine wnC (fun _ => wnB (wnU1 hw) fun _ => wnB (wnS1 hw) fun _ => wnP _) ?_
  refine wnC (fun _ => wnP _) ?_
  refine wnC (fun _ => wnP _) ?_
  refine wnC (fun _ => wnP _) ?_
  refine wnC (fun _ => wnP _) ?_
  refine wnC (fun _ => wnP _) ?_
  refine wnC (fun _ => wnP _) ?_
  refine wnC (fun _ => wnP _) ?_
  refine wnC (fun _ => wnP _) ?_
  refine wnC (fun _ => wnP _) ?_
  refine wnC (fun _ => wnP _) ?_
  refine wnC (fun _ => wnP _) ?_
  refine wnC (fun _ => wnP _) ?_
  refine wnC (fun _ => wnP _) ?_
  refine wnC (fun _ => wnP _) ?_
  refine wnC (fun _ => wnP _) ?_
  refine wnC (fun _ => wnP _) ?_
  refine wnC (fun _ => wnP _) ?_
  refine wnC (fun _ => wnP _) ?_
  refine wnC (fun _ => wnP _) ?_
  refine wnC (fun _ => wnP _) ?_
  refine wnC (fun _ => wnB (wnS2 hw) fun _ => wnP _) ?_
  refine wnC (fun _ => wnB (wnS2 hw) fun _ => wnP _) ?_
  refine wnC (fun _ => wnB (wnS2 hw) fun _ => wnP _) ?_
  refine wnC (fun _ => wnB (wnS2 hw) fun _ => wnP _) ?_
  refine wnC (fun _ => wnB (wnS2 hw) fun _ => wnP _) ?_
  refine wnC (fun _ => wnB (wnS2 hw) fun _ => wnP _) ?_
  refine wnC (fun _ => wnB (wnS2 hw) fun _ => wnP _) ?_
  refine wnC (fun _ => wnB (wnS2 hw) fun _ => wnP _) ?_
  refine wnC (fun _ => wnB (wnS2 hw) fun _ => wnP _) ?_
  refine wnC (fun _ => wnB (wnS2 hw) fun _ => wnP _) ?_
  refine wnC (fun _ => wnB (wnS2 hw) fun _ => wnP _) ?_
  refine wnC (fun _ => wnB (wnS2 hw) fun _ => wnP _) ?_
  refine wnC (fun _ => wnB (wnS2 hw) fun _ => wnP _) ?_
  refine wnC (fun _ => wnB (wnS2 hw) fun _ => wnP _) ?_
  refine wnC (fun _ => wnB (wnS2 hw) fun _ => wnP _) ?_
  refine wnC (fun _ => wnB (wnS2 hw) fun _ => wnP _) ?_
  refine wnC (fun _ => wnB (wnU1 hw) fun _ => wnP _) ?_
  refine wnC (fun h => absurd h (by decide)) ?_
  refine wnC (fun h => absurd h (by decide)) ?_
  refine wnC (fun _ => wnP _) ?_
  refine wnC (fun _ => wnP _) ?_
  refine wnC (fun _ => wnP _) ?_
  refine wnC (fun _ => wnP _) ?_
  refine wnC (fun _ => wnP _) ?_
  refine wnC (fun _ => wnP _) ?_
  refine wnC (fun _ => wnB (wnU2 hw) fun _ => wnP _) ?_
  refine wnC (fun _ => wnB (wnU2 hw) fun _ => wnP _) ?_
  refine wnC (fun _ => wnB (wnU2 hw) fun _ => wnP _) ?_
  refine wnC (fun _ => wnB (wnU2 hw) fun _ => wnP _) ?_
  refine wnC (fun _ => wnB (wnU2 hw) fun _ => wnP _) ?_
  refine wnC (fun _ => wnB (wnU2 hw) fun _ => wnP _) ?_
  refine wnC (fun _ => wnB (wnU2 hw) fun _ => wnP _) ?_
  refine wnC (fun h => absurd h (by decide)) ?_
  refine wnC (fun h => absurd h (by decide)) ?_
  refine wnC (fun _ => wnB (wnU2 hw) fun _ => wnP _) ?_
  refine wnC (fun h => absurd h (by decide)) ?_
  refine wnC (fun _ => wnB (wnU2 hw) fun _ => wnP _) ?_
  refine wnC (fun _ => wnP _) ?_
  refine wnC (fun _ => wnP _) ?_
  refine wnC (fun _ => wnB (wnU2 hw) fun _ => wnP _) ?_
  refine wnC (fun _ => wnB (wnU2 hw) fun _ => wnP _) ?_
  refine wnC (fun _ => wnP _) ?_
  refine wnC (fun _ => wnP _) ?_
  refine wnC (fun h => absurd h (by decide)) ?_
  refine wnC (fun h => absurd h (by decide)) ?_
  refine wnC (fun _ => wnB (wnS2 hw) fun _ => wnP _) ?_
  refine wnC (fun _ => wnB (wnS2 hw) fun _ => wnP _) ?_
  refine wnC (fun _ => wnB (wnS4 hw) fun _ => wnP _) ?_
  refine wnC (fun _ => wnB (wnS4 hw) fun _ => wnP _) ?_
  refine wnC (fun _ => wnT _ _) ?_
  refine wnC (fun _ => wnT _ _) ?_
  refine wnC (fun _ => wnT _ _) ?_
  refine wnC (fun _ => wnT _ _) ?_
  refine wnC (fun _ => wnT _ _) ?_
  refine wnC (fun _ => wnT _ _) ?_
  refine wnC (fun _ => wnT _ _) ?_
  refine wnC (fun _ => wnT _ _) ?_
  refine wnC (fun _ => wnT _ _) ?_
  refine wnC (fun _ => wnT _ _) ?_
  refine wnC (fun _ => wnT _ _) ?_
  refine wnC (fun _ => wnT _ _) ?_
  refine wnC (fun _ => wnT _ _) ?_
  refine wnC (fun _ => wnT _ _) ?_
  refine wnC (fun _ => wnT _ _) ?_
  refine wnC (fun _ => wnT _ _) ?_
  refine wnC (fun _ => wnT _ _) ?_
  refine wnC (fun _ => wnT _ _) ?_
  refine wnC (fun _ => wnT _ _) ?_
  refine wnC (fun _ => wnT _ _) ?_
  refine wnC (fun _ => wnT _ _) ?_
  refine wnC (fun _ => wnT _ _) ?_
  refine wnC (fun _ => wnT _ _) ?_
  refine wnC (fun _ => wnT _ _) ?_
  refine wnC (fun _ => wnT _ _) ?_
  refine wnC (fun _ => wnT _ _) ?_
  refine wnC (fun _ => wnT _ _) ?_
  refine wnC (fun _ => wnT _ _) ?_
  refine wnC (fun _ => wnT _ _) ?_
  refine wnC (fun _ => wnT _ _) ?_
  refine wnC (fun _ => wnT _ _) ?_
  refine wnC (fun _ => wnT _ _) ?_
  refine wnC (fun _ => wnT _ _) ?_
  refine wnC (fun _ => wnT _ _) ?_
  refine wnC (fun _ => wnT _ _) ?_
  refine wnC (fun _ => wnT _ _) ?_
  refine wnC (fun _ => wnT _ _) ?_
  refine wnC (fun _ => wnT _ _) ?_
  refine wnC (fun _ => wnT _ _) ?_
  refine wnC (fun _ => wnT _ _) ?_
  refine wnC (fun _ => wnT _ _) ?_
  refine wnC (fun _ => wnT _ _) ?_
  refine wnC (fun _ => wnT _ _) ?_
  refine wnC (fun _ => wnT _ _) ?_
  refine wnC (fun _ => wnT _ _) ?_
  refine wnC (fun _ => wnT _ _) ?_
  refine wnC (fun _ => wnT _ _) ?_
  refine wnC (fun _ => wnT _ _) ?_
  refine wnC (fun _ => wnT _ _) ?_
  refine wnC (fun _ => wnT _ _) ?_
  refine wnC (fun _ => wnT _ _) ?_
  refine wnC (fun _ => wnT _ _) ?_
  refine wnC (fun _ => wnT _ _) ?_
  refine wnC (fun _ => wnT _ _) ?_
  exact wnN
theorem wnDec {A B : ByteArray} {k : Nat} (hw : wnW A B k) {pc : Nat} {i : Jvm.ClassFile.Instr} {n : Nat} (hp : pc < A.size) (ho : wnOk A[pc].toNat = true) (h : decode A pc = .ok (i, n)) : decode B (pc + k) = .ok (i, n) := by
  have e : ∀ (C : ByteArray) (s : Nat), decode C s = (match Jvm.ClassFile.Decoder.instr s C s with | .error x => .error x | .ok y => .ok (y.1, y.2 - s)) := fun C s => by
    show Except.bind (Jvm.ClassFile.Decoder.instr s C s) (fun y => .ok (y.1, y.2 - s)) = _
    cases Jvm.ClassFile.Decoder.instr s C s <;> rfl
  rw [e A pc] at h
  rw [e B (pc + k)]
  cases g : Jvm.ClassFile.Decoder.instr pc A pc with
  | error x => rw [g] at h; cases h
  | ok y =>
    rw [g] at h
    rw [wnIns hw pc (pc + k) (a := y.1) (q := y.2) hp ho g]
    show Except.ok (y.1, y.2 + k - (pc + k)) = _
    rw [Nat.add_sub_add_right]
    exact h
theorem wnWof {B : ByteArray} {k : Nat} {w : List UInt8} (hw : (B.data.toList.drop k).take w.length = w) : wnW ⟨⟨w⟩⟩ B k := by
  intro i h
  have h0 : i < w.length := h
  have e : B.data.toList[i + k]? = some w[i] := by
    have e1 : ((B.data.toList.drop k).take w.length)[i]? = w[i]? := by rw [hw]
    rw [List.getElem?_take_of_lt h0, List.getElem?_drop, List.getElem?_eq_getElem h0, Nat.add_comm] at e1
    exact e1
  obtain ⟨h', e2⟩ := List.getElem?_eq_some_iff.mp e
  exact ⟨h', e2⟩
/-- a row of a piece w from a on -/
def wnL (w : List UInt8) (a : Nat) (q : Nat × (Jvm.ClassFile.Instr × Nat)) : Bool := decide (a ≤ q.1) && (match w[q.1 - a]? with | some x => wnOk x.toNat | none => false) && decide (decode ⟨⟨w⟩⟩ (q.1 - a) = .ok q.2)
theorem wnGet {cc : ByteArray} {w : List UInt8} {a : Nat} {l : List (Nat × (Jvm.ClassFile.Instr × Nat))} (hw : (cc.data.toList.drop a).take w.length = w) (h : l.all (wnL w a) = true) (i : Nat) {pc : Nat} {b : Jvm.ClassFile.Instr × Nat} (e : l[i]? = some (pc, b)) : decode cc pc = .ok b := by
  have h0 := List.all_eq_true.mp h (pc, b) (List.mem_of_getElem? e)
  unfold wnL at h0
  dsimp only at h0
  rw [Bool.and_eq_true, Bool.and_eq_true] at h0
  obtain ⟨⟨h1, h2⟩, h3⟩ := h0
  have h1' := of_decide_eq_true h1
  have h3' := of_decide_eq_true h3
  cases hx : w[pc - a]? with
  | none => rw [hx] at h2; cases h2
  | some x =>
    rw [hx] at h2
    obtain ⟨hl, ex⟩ := List.getElem?_eq_some_iff.mp hx
    have g := wnDec (wnWof hw) (pc := pc - a) (i := b.1) (n := b.2) hl (show wnOk (w[pc - a]).toNat = true by rw [ex]; exact h2) h3'
    rw [Nat.sub_add_cancel h1'] at g
    exact g
