/-! ===== BEGIN words of one list among another's, by their places ===== -/
theorem goodIn_r {big : List Cond} (ws : List Cond) (ps : List Nat) (hp : ws = ps.filterMap (fun i => big[i]?)) (h : ws.all goodWord = true) : GoodIn big ws := by
  intro w hw
  have h1 := List.all_eq_true.mp h w hw
  rw [hp] at hw
  obtain ⟨i, -, hi⟩ := List.mem_filterMap.mp hw
  have hm : w ∈ big := by first | exact List.mem_of_getElem? hi | exact List.getElem?_mem hi
  exact ⟨hm, good_of_word h1⟩
theorem goodIn_app {big a b : List Cond} (ha : GoodIn big a) (hb : GoodIn big b) : GoodIn big (a ++ b) := fun w h => (List.mem_append.mp h).elim (ha w) (hb w)
theorem goodIn_ca {big a b : List Cond} {c : Cond} (ha : GoodIn big (c :: a)) (hb : GoodIn big b) : GoodIn big (c :: (a ++ b)) := fun w h => (List.mem_cons.mp h).elim (fun e => ha w (List.mem_cons.mpr (Or.inl e))) (fun h => (List.mem_append.mp h).elim (fun h => ha w (List.mem_cons.mpr (Or.inr h))) (hb w))
theorem goodIn_sub {big ws : List Cond} (hm : ∀ w ∈ ws, w ∈ big) (h : ws.all goodWord = true) : GoodIn big ws := fun w hw => ⟨hm w hw, good_of_word (List.all_eq_true.mp h w hw)⟩
/-! ===== END ===== -/

/-! ===== BEGIN printed: names, fields, word lists, decode rows ===== -/
def RX0 : String := "LoopSorter$Chute"
def TX0 : u_T := fun k => match k with
  | 0 => ("LoopSorter$Chute", "position", "I", true)
  | 1 => ("LoopSorter$Chute", "isOverflow", "Z", true)
  | 2 => ("LoopSorter$Chute", "lying", "I", false)
  | _ => ("LoopSorter$Chute", "heldShut", "Z", false)
def tyX0 : Nat → FieldType := fun k => match k with
  | 0 => .int
  | 1 => .boolean
  | 2 => .int
  | _ => .boolean
abbrev wsX00 : List Cond := u_ws RX0 TX0 4
theorem nmX0 : ∀ a, a < 4 → ∀ b, b < 4 → a ≠ b → (TX0 a).2.1 ≠ (TX0 b).2.1 := by decide +kernel
theorem tyX0_ok : ∀ k, k < 4 → parseFieldDescriptor (TX0 k).2.2.1 = some (tyX0 k) := by decide +kernel
abbrev cX0_init : ByteArray := prog_2_method_1_code
def yX0_init : MethodName := ⟨RX0, "<init>", "(IZ)V"⟩
abbrev cX0_hasRoom : ByteArray := prog_2_method_2_code
def yX0_hasRoom : MethodName := ⟨RX0, "hasRoom", "()Z"⟩
abbrev cX0_holdShut : ByteArray := prog_2_method_3_code
def yX0_holdShut : MethodName := ⟨RX0, "holdShut", "()V"⟩
abbrev cX0_empty : ByteArray := prog_2_method_4_code
def yX0_empty : MethodName := ⟨RX0, "empty", "()V"⟩
def RX1 : String := "LoopSorter$Induct"
def TX1 : u_T := fun k => match k with
  | 0 => ("LoopSorter$Induct", "position", "I", true)
  | 1 => ("LoopSorter$Induct", "row", "[LLoopSorter$Item;", true)
  | 2 => ("LoopSorter$Induct", "waiting", "I", false)
  | 3 => ("LoopSorter$Induct", "putOnCount", "J", false)
  | _ => ("LoopSorter$Induct", "hadTurn", "Z", false)
def tyX1 : Nat → FieldType := fun k => match k with
  | 0 => .int
  | 1 => .array (.object "LoopSorter$Item")
  | 2 => .int
  | 3 => .long
  | _ => .boolean
abbrev wsX10 : List Cond := u_ws RX1 TX1 5
theorem nmX1 : ∀ a, a < 5 → ∀ b, b < 5 → a ≠ b → (TX1 a).2.1 ≠ (TX1 b).2.1 := by decide +kernel
theorem tyX1_ok : ∀ k, k < 5 → parseFieldDescriptor (TX1 k).2.2.1 = some (tyX1 k) := by decide +kernel
abbrev cX1_init : ByteArray := prog_3_method_1_code
def yX1_init : MethodName := ⟨RX1, "<init>", "(I)V"⟩
abbrev cX1_isRowFull : ByteArray := prog_3_method_2_code
def yX1_isRowFull : MethodName := ⟨RX1, "isRowFull", "()Z"⟩
abbrev cX1_addLast : ByteArray := prog_3_method_3_code
def yX1_addLast : MethodName := ⟨RX1, "addLast", "(LLoopSorter$Item;)V"⟩
abbrev cX1_first : ByteArray := prog_3_method_4_code
def yX1_first : MethodName := ⟨RX1, "first", "()LLoopSorter$Item;"⟩
abbrev cX1_removeFirst : ByteArray := prog_3_method_5_code
def yX1_removeFirst : MethodName := ⟨RX1, "removeFirst", "()V"⟩
def RX2 : String := "LoopSorter$Item"
def TX2 : u_T := fun k => match k with
  | 0 => ("LoopSorter$Item", "number", "I", true)
  | 1 => ("LoopSorter$Item", "length", "I", true)
  | 2 => ("LoopSorter$Item", "chute", "I", true)
  | 3 => ("LoopSorter$Item", "place", "LLoopSorter$Place;", false)
  | 4 => ("LoopSorter$Item", "ownTray", "I", false)
  | 5 => ("LoopSorter$Item", "rounds", "I", false)
  | 6 => ("LoopSorter$Item", "outChute", "I", false)
  | _ => ("LoopSorter$Item", "outTime", "I", false)
def tyX2 : Nat → FieldType := fun k => match k with
  | 0 => .int
  | 1 => .int
  | 2 => .int
  | 3 => .object "LoopSorter$Place"
  | 4 => .int
  | 5 => .int
  | 6 => .int
  | _ => .int
abbrev wsX20 : List Cond := u_ws RX2 TX2 8
theorem nmX2 : ∀ a, a < 8 → ∀ b, b < 8 → a ≠ b → (TX2 a).2.1 ≠ (TX2 b).2.1 := by decide +kernel
theorem tyX2_ok : ∀ k, k < 8 → parseFieldDescriptor (TX2 k).2.2.1 = some (tyX2 k) := by decide +kernel
abbrev cX2_init : ByteArray := prog_4_method_1_code
def yX2_init : MethodName := ⟨RX2, "<init>", "(III)V"⟩
def RX3 : String := "LoopSorter$Place"
def TX3 : u_T := fun k => match k with
  | _ => ("", "", "", false)
def tyX3 : Nat → FieldType := fun k => match k with
  | _ => .int
abbrev wsX30 : List Cond := u_ws RX3 TX3 0
theorem nmX3 : ∀ a, a < 0 → ∀ b, b < 0 → a ≠ b → (TX3 a).2.1 ≠ (TX3 b).2.1 := by decide +kernel
theorem tyX3_ok : ∀ k, k < 0 → parseFieldDescriptor (TX3 k).2.2.1 = some (tyX3 k) := by decide +kernel
def RX4 : String := "LoopSorter"
def TX4 : u_T := fun k => match k with
  | 0 => ("LoopSorter", "trayCount", "I", true)
  | 1 => ("LoopSorter", "roundsAllowed", "I", true)
  | 2 => ("LoopSorter", "carriedBy", "[LLoopSorter$Item;", true)
  | 3 => ("LoopSorter", "inducts", "[LLoopSorter$Induct;", true)
  | 4 => ("LoopSorter", "chutes", "[LLoopSorter$Chute;", true)
  | 5 => ("LoopSorter", "items", "[LLoopSorter$Item;", true)
  | 6 => ("LoopSorter", "gone", "[LLoopSorter$Item;", true)
  | 7 => ("LoopSorter", "itemCount", "I", false)
  | 8 => ("LoopSorter", "goneCount", "I", false)
  | 9 => ("LoopSorter", "carriedCount", "I", false)
  | 10 => ("LoopSorter", "movesPerStep", "I", false)
  | 11 => ("LoopSorter", "time", "I", false)
  | _ => ("LoopSorter", "shift", "I", false)
def tyX4 : Nat → FieldType := fun k => match k with
  | 0 => .int
  | 1 => .int
  | 2 => .array (.object "LoopSorter$Item")
  | 3 => .array (.object "LoopSorter$Induct")
  | 4 => .array (.object "LoopSorter$Chute")
  | 5 => .array (.object "LoopSorter$Item")
  | 6 => .array (.object "LoopSorter$Item")
  | 7 => .int
  | 8 => .int
  | 9 => .int
  | 10 => .int
  | 11 => .int
  | _ => .int
abbrev wsX40 : List Cond := u_ws RX4 TX4 13
theorem nmX4 : ∀ a, a < 13 → ∀ b, b < 13 → a ≠ b → (TX4 a).2.1 ≠ (TX4 b).2.1 := by decide +kernel
theorem tyX4_ok : ∀ k, k < 13 → parseFieldDescriptor (TX4 k).2.2.1 = some (tyX4 k) := by decide +kernel
abbrev cX4_init : ByteArray := prog_1_method_1_code
def yX4_init : MethodName := ⟨RX4, "<init>", "(II)V"⟩
abbrev cX4_induct : ByteArray := prog_1_method_2_code
def yX4_induct : MethodName := ⟨RX4, "induct", "(III)I"⟩
abbrev cX4_step : ByteArray := prog_1_method_3_code
def yX4_step : MethodName := ⟨RX4, "step", "(I)I"⟩
abbrev cX4_out : ByteArray := prog_1_method_4_code
def yX4_out : MethodName := ⟨RX4, "out", "(II)I"⟩
abbrev cX4_tray : ByteArray := prog_1_method_5_code
def yX4_tray : MethodName := ⟨RX4, "tray", "(I)I"⟩
abbrev cX4_full : ByteArray := prog_1_method_6_code
def yX4_full : MethodName := ⟨RX4, "full", "(IZ)I"⟩
abbrev cX4_missed : ByteArray := prog_1_method_7_code
def yX4_missed : MethodName := ⟨RX4, "missed", "(I)I"⟩
abbrev cX4_found : ByteArray := prog_1_method_8_code
def yX4_found : MethodName := ⟨RX4, "found", "(II)I"⟩
abbrev cX4_speed : ByteArray := prog_1_method_9_code
def yX4_speed : MethodName := ⟨RX4, "speed", "(I)I"⟩
abbrev cX4_share : ByteArray := prog_1_method_10_code
def yX4_share : MethodName := ⟨RX4, "share", "(I)J"⟩
abbrev cX4_round : ByteArray := prog_1_method_11_code
def yX4_round : MethodName := ⟨RX4, "round", "(I)I"⟩
abbrev cX4_bringWithin : ByteArray := prog_1_method_12_code
def yX4_bringWithin : MethodName := ⟨RX4, "bringWithin", "(II)I"⟩
abbrev cX4_isInduct : ByteArray := prog_1_method_13_code
def yX4_isInduct : MethodName := ⟨RX4, "isInduct", "(I)Z"⟩
abbrev cX4_isChute : ByteArray := prog_1_method_14_code
def yX4_isChute : MethodName := ⟨RX4, "isChute", "(I)Z"⟩
abbrev cX4_isTray : ByteArray := prog_1_method_15_code
def yX4_isTray : MethodName := ⟨RX4, "isTray", "(I)Z"⟩
abbrev cX4_itemNumbered : ByteArray := prog_1_method_16_code
def yX4_itemNumbered : MethodName := ⟨RX4, "itemNumbered", "(I)LLoopSorter$Item;"⟩
abbrev cX4_itemGoneAs : ByteArray := prog_1_method_17_code
def yX4_itemGoneAs : MethodName := ⟨RX4, "itemGoneAs", "(I)LLoopSorter$Item;"⟩
abbrev cX4_itemOn : ByteArray := prog_1_method_18_code
def yX4_itemOn : MethodName := ⟨RX4, "itemOn", "(I)LLoopSorter$Item;"⟩
abbrev cX4_runOneStep : ByteArray := prog_1_method_19_code
def yX4_runOneStep : MethodName := ⟨RX4, "runOneStep", "()V"⟩
abbrev cX4_passChutes : ByteArray := prog_1_method_20_code
def yX4_passChutes : MethodName := ⟨RX4, "passChutes", "()V"⟩
abbrev cX4_passChute : ByteArray := prog_1_method_21_code
def yX4_passChute : MethodName := ⟨RX4, "passChute", "(LLoopSorter$Item;I)V"⟩
abbrev cX4_letOut : ByteArray := prog_1_method_22_code
def yX4_letOut : MethodName := ⟨RX4, "letOut", "(LLoopSorter$Item;I)V"⟩
abbrev cX4_takeTurns : ByteArray := prog_1_method_23_code
def yX4_takeTurns : MethodName := ⟨RX4, "takeTurns", "()V"⟩
abbrev cX4_nextInTurn : ByteArray := prog_1_method_24_code
def yX4_nextInTurn : MethodName := ⟨RX4, "nextInTurn", "()LLoopSorter$Induct;"⟩
abbrev cX4_putFirstOn : ByteArray := prog_1_method_25_code
def yX4_putFirstOn : MethodName := ⟨RX4, "putFirstOn", "(LLoopSorter$Induct;)V"⟩
abbrev cX4_isFreeFor : ByteArray := prog_1_method_26_code
def yX4_isFreeFor : MethodName := ⟨RX4, "isFreeFor", "(LLoopSorter$Item;I)Z"⟩
abbrev cX4_setTraysOf : ByteArray := prog_1_method_27_code
def yX4_setTraysOf : MethodName := ⟨RX4, "setTraysOf", "(LLoopSorter$Item;LLoopSorter$Item;)V"⟩
abbrev cX4_setTray : ByteArray := prog_1_method_28_code
def yX4_setTray : MethodName := ⟨RX4, "setTray", "(ILLoopSorter$Item;)V"⟩
abbrev cX4_trayAt : ByteArray := prog_1_method_29_code
def yX4_trayAt : MethodName := ⟨RX4, "trayAt", "(I)I"⟩
abbrev cX4_trayBehind : ByteArray := prog_1_method_30_code
def yX4_trayBehind : MethodName := ⟨RX4, "trayBehind", "(I)I"⟩
def RX5 : String := "LoopSorterModel"
def TX5 : u_T := fun k => match k with
  | 0 => ("LoopSorterModel", "thrown", "I", false)
  | 1 => ("LoopSorterModel", "trays", "I", true)
  | 2 => ("LoopSorterModel", "most", "I", true)
  | 3 => ("LoopSorterModel", "number", "[I", true)
  | 4 => ("LoopSorterModel", "load", "[I", true)
  | 5 => ("LoopSorterModel", "speed", "I", false)
  | 6 => ("LoopSorterModel", "time", "I", false)
  | 7 => ("LoopSorterModel", "items", "I", false)
  | 8 => ("LoopSorterModel", "length", "[I", true)
  | 9 => ("LoopSorterModel", "chute", "[I", true)
  | 10 => ("LoopSorterModel", "where", "[I", true)
  | 11 => ("LoopSorterModel", "own", "[I", true)
  | 12 => ("LoopSorterModel", "rounds", "[I", true)
  | 13 => ("LoopSorterModel", "at", "[I", true)
  | 14 => ("LoopSorterModel", "shares", "[J", true)
  | 15 => ("LoopSorterModel", "lying", "[I", true)
  | 16 => ("LoopSorterModel", "shut", "[Z", true)
  | 17 => ("LoopSorterModel", "gone", "I", false)
  | 18 => ("LoopSorterModel", "goneItem", "[I", true)
  | 19 => ("LoopSorterModel", "goneChute", "[I", true)
  | 20 => ("LoopSorterModel", "goneTime", "[I", true)
  | _ => ("LoopSorterModel", "had", "[Z", true)
def tyX5 : Nat → FieldType := fun k => match k with
  | 0 => .int
  | 1 => .int
  | 2 => .int
  | 3 => .array .int
  | 4 => .array .int
  | 5 => .int
  | 6 => .int
  | 7 => .int
  | 8 => .array .int
  | 9 => .array .int
  | 10 => .array .int
  | 11 => .array .int
  | 12 => .array .int
  | 13 => .array .int
  | 14 => .array .long
  | 15 => .array .int
  | 16 => .array .boolean
  | 17 => .int
  | 18 => .array .int
  | 19 => .array .int
  | 20 => .array .int
  | _ => .array .boolean
abbrev wsX50 : List Cond := u_ws RX5 TX5 22
theorem nmX5 : ∀ a, a < 22 → ∀ b, b < 22 → a ≠ b → (TX5 a).2.1 ≠ (TX5 b).2.1 := by decide +kernel
theorem tyX5_ok : ∀ k, k < 22 → parseFieldDescriptor (TX5 k).2.2.1 = some (tyX5 k) := by decide +kernel
abbrev cX5_init : ByteArray := prog_7_method_1_code
def yX5_init : MethodName := ⟨RX5, "<init>", "(II)V"⟩
abbrev cX5_thrown : ByteArray := prog_7_method_2_code
def yX5_thrown : MethodName := ⟨RX5, "thrown", "()I"⟩
abbrev cX5_in : ByteArray := prog_7_method_3_code
def yX5_in : MethodName := ⟨RX5, "in", "(III)Z"⟩
abbrev cX5_waiting : ByteArray := prog_7_method_4_code
def yX5_waiting : MethodName := ⟨RX5, "waiting", "(I)I"⟩
abbrev cX5_induct : ByteArray := prog_7_method_5_code
def yX5_induct : MethodName := ⟨RX5, "induct", "(III)I"⟩
abbrev cX5_move : ByteArray := prog_7_method_6_code
def yX5_move : MethodName := ⟨RX5, "move", "()V"⟩
abbrev cX5_before : ByteArray := prog_7_method_7_code
def yX5_before : MethodName := ⟨RX5, "before", "(I)I"⟩
abbrev cX5_hasRoom : ByteArray := prog_7_method_8_code
def yX5_hasRoom : MethodName := ⟨RX5, "hasRoom", "(I)Z"⟩
abbrev cX5_goOut : ByteArray := prog_7_method_9_code
def yX5_goOut : MethodName := ⟨RX5, "goOut", "(III)V"⟩
abbrev cX5_passChute : ByteArray := prog_7_method_10_code
def yX5_passChute : MethodName := ⟨RX5, "passChute", "(I)V"⟩
abbrev cX5_firstWaiting : ByteArray := prog_7_method_11_code
def yX5_firstWaiting : MethodName := ⟨RX5, "firstWaiting", "(I)I"⟩
abbrev cX5_putOn : ByteArray := prog_7_method_12_code
def yX5_putOn : MethodName := ⟨RX5, "putOn", "(I)V"⟩
abbrev cX5_turns : ByteArray := prog_7_method_13_code
def yX5_turns : MethodName := ⟨RX5, "turns", "()V"⟩
abbrev cX5_step : ByteArray := prog_7_method_14_code
def yX5_step : MethodName := ⟨RX5, "step", "(I)I"⟩
abbrev cX5_out : ByteArray := prog_7_method_15_code
def yX5_out : MethodName := ⟨RX5, "out", "(II)I"⟩
abbrev cX5_itemOn : ByteArray := prog_7_method_16_code
def yX5_itemOn : MethodName := ⟨RX5, "itemOn", "(I)I"⟩
abbrev cX5_tray : ByteArray := prog_7_method_17_code
def yX5_tray : MethodName := ⟨RX5, "tray", "(I)I"⟩
abbrev cX5_full : ByteArray := prog_7_method_18_code
def yX5_full : MethodName := ⟨RX5, "full", "(IZ)I"⟩
abbrev cX5_isItem : ByteArray := prog_7_method_19_code
def yX5_isItem : MethodName := ⟨RX5, "isItem", "(I)Z"⟩
abbrev cX5_missed : ByteArray := prog_7_method_20_code
def yX5_missed : MethodName := ⟨RX5, "missed", "(I)I"⟩
abbrev cX5_found : ByteArray := prog_7_method_21_code
def yX5_found : MethodName := ⟨RX5, "found", "(II)I"⟩
abbrev cX5_speed : ByteArray := prog_7_method_22_code
def yX5_speed : MethodName := ⟨RX5, "speed", "(I)I"⟩
abbrev cX5_share : ByteArray := prog_7_method_23_code
def yX5_share : MethodName := ⟨RX5, "share", "(I)J"⟩
abbrev cX5_round : ByteArray := prog_7_method_24_code
def yX5_round : MethodName := ⟨RX5, "round", "(I)I"⟩
def RJx00060 : String := "java/lang/ArrayIndexOutOfBoundsException"
def TJx00060 : u_T := fun k => match k with
  | 0 => ("java/lang/Throwable", "cause", "Ljava/lang/Throwable;", false)
  | 1 => ("java/lang/Throwable", "stackTrace", "[Ljava/lang/StackTraceElement;", false)
  | 2 => ("java/lang/Throwable", "suppressedExceptions", "Ljava/util/List;", false)
  | 3 => ("java/lang/Throwable", "detailMessage", "Ljava/lang/String;", false)
  | 4 => ("java/lang/Throwable", "backtrace", "Ljava/lang/Object;", false)
  | _ => ("java/lang/Throwable", "depth", "I", false)
def tyJx00060 : Nat → FieldType := fun k => match k with
  | 0 => .object "java/lang/Throwable"
  | 1 => .array (.object "java/lang/StackTraceElement")
  | 2 => .object "java/util/List"
  | 3 => .object "java/lang/String"
  | 4 => .object "java/lang/Object"
  | _ => .int
abbrev wsJx000600 : List Cond := u_ws RJx00060 TJx00060 6
theorem nmJx00060 : ∀ a, a < 6 → ∀ b, b < 6 → a ≠ b → (TJx00060 a).2.1 ≠ (TJx00060 b).2.1 := by decide +kernel
theorem tyJx00060_ok : ∀ k, k < 6 → parseFieldDescriptor (TJx00060 k).2.2.1 = some (tyJx00060 k) := by decide +kernel
abbrev cJx00060_init_a7421 : ByteArray := prog_8_method_2_code
def yJx00060_init_a7421 : MethodName := ⟨RJx00060, "<init>", "(Ljava/lang/String;)V"⟩
def RJx29ce0 : String := "java/lang/Enum"
def TJx29ce0 : u_T := fun k => match k with
  | _ => ("", "", "", false)
def tyJx29ce0 : Nat → FieldType := fun k => match k with
  | _ => .int
abbrev wsJx29ce00 : List Cond := u_ws RJx29ce0 TJx29ce0 0
theorem nmJx29ce0 : ∀ a, a < 0 → ∀ b, b < 0 → a ≠ b → (TJx29ce0 a).2.1 ≠ (TJx29ce0 b).2.1 := by decide +kernel
theorem tyJx29ce0_ok : ∀ k, k < 0 → parseFieldDescriptor (TJx29ce0 k).2.2.1 = some (tyJx29ce0 k) := by decide +kernel
def RJ9 : String := "java/lang/Math"
def TJ9 : u_T := fun k => match k with
  | _ => ("", "", "", false)
def tyJ9 : Nat → FieldType := fun k => match k with
  | _ => .int
abbrev wsJ90 : List Cond := u_ws RJ9 TJ9 0
theorem nmJ9 : ∀ a, a < 0 → ∀ b, b < 0 → a ≠ b → (TJ9 a).2.1 ≠ (TJ9 b).2.1 := by decide +kernel
theorem tyJ9_ok : ∀ k, k < 0 → parseFieldDescriptor (TJ9 k).2.2.1 = some (tyJ9 k) := by decide +kernel
abbrev cJ9_max_7cf53 : ByteArray := prog_12_method_65_code
def yJ9_max_7cf53 : MethodName := ⟨RJ9, "max", "(II)I"⟩
abbrev cJ9_min_7cf53 : ByteArray := prog_12_method_69_code
def yJ9_min_7cf53 : MethodName := ⟨RJ9, "min", "(II)I"⟩
def RJ0 : String := "java/lang/String"
def TJ0 : u_T := fun k => match k with
  | _ => ("", "", "", false)
def tyJ0 : Nat → FieldType := fun k => match k with
  | _ => .int
abbrev wsJ00 : List Cond := u_ws RJ0 TJ0 0
theorem nmJ0 : ∀ a, a < 0 → ∀ b, b < 0 → a ≠ b → (TJ0 a).2.1 ≠ (TJ0 b).2.1 := by decide +kernel
theorem tyJ0_ok : ∀ k, k < 0 → parseFieldDescriptor (TJ0 k).2.2.1 = some (tyJ0 k) := by decide +kernel
def RL : String := "LoopSorterLaw"
abbrev cL_cell : ByteArray := method_2_code
def yL_cell : MethodName := ⟨RL, "cell", "([II)I"⟩
abbrev cL_tray : ByteArray := method_3_code
def yL_tray : MethodName := ⟨RL, "tray", "(LLoopSorter;I[J)I"⟩
abbrev cL_found : ByteArray := method_4_code
def yL_found : MethodName := ⟨RL, "found", "(LLoopSorter;II[J)I"⟩
abbrev cL_law : ByteArray := code
def yL_law : MethodName := ⟨RL, "law", "([I)Z"⟩
def wsX0_init : List Cond := .code yX0_init cX0_init 3 none :: ([.methodLink RX0 1 objectInit, .instanceMethod objectInit, .code objectInit ⟨#[0xb1]⟩ 1 none, .fieldLink RX0 7 "LoopSorter$Chute" "position" "I", .fieldLink RX0 13 "LoopSorter$Chute" "isOverflow" "Z"] ++ wsX00)
def wsX0_hasRoom : List Cond := .code yX0_hasRoom cX0_hasRoom 1 (some .boolean) :: ([.fieldLink RX0 13 "LoopSorter$Chute" "isOverflow" "Z", .fieldLink RX0 17 "LoopSorter$Chute" "heldShut" "Z", .fieldLink RX0 20 "LoopSorter$Chute" "lying" "I"] ++ wsX00)
def wsX0_holdShut : List Cond := .code yX0_holdShut cX0_holdShut 1 none :: ([.fieldLink RX0 17 "LoopSorter$Chute" "heldShut" "Z"] ++ wsX00)
def wsX0_empty : List Cond := .code yX0_empty cX0_empty 1 none :: ([.fieldLink RX0 17 "LoopSorter$Chute" "heldShut" "Z", .fieldLink RX0 20 "LoopSorter$Chute" "lying" "I"] ++ wsX00)
def wsX1_init : List Cond := .code yX1_init cX1_init 2 none :: ([.methodLink RX1 1 objectInit, .instanceMethod objectInit, .code objectInit ⟨#[0xb1]⟩ 1 none, .fieldLink RX1 7 "LoopSorter$Induct" "position" "I", .classLink RX1 13 RX2, .fieldLink RX1 15 "LoopSorter$Induct" "row" "[LLoopSorter$Item;"] ++ wsX10)
def wsX1_isRowFull : List Cond := .code yX1_isRowFull cX1_isRowFull 1 (some .boolean) :: ([.fieldLink RX1 19 "LoopSorter$Induct" "waiting" "I"] ++ wsX10)
def wsX1_addLast : List Cond := .code yX1_addLast cX1_addLast 2 none :: ([.fieldLink RX1 15 "LoopSorter$Induct" "row" "[LLoopSorter$Item;", .fieldLink RX1 19 "LoopSorter$Induct" "waiting" "I", .methodLink RX1 22 yX1_isRowFull, .instanceMethod yX1_isRowFull, .selects RX1 yX1_isRowFull yX1_isRowFull, .initialized RX1, .code yX1_isRowFull cX1_isRowFull 1 (some .boolean)] ++ wsX10)
def wsX1_first : List Cond := .code yX1_first cX1_first 1 (some (.object "LoopSorter$Item")) :: ([.fieldLink RX1 19 "LoopSorter$Induct" "waiting" "I", .fieldLink RX1 15 "LoopSorter$Induct" "row" "[LLoopSorter$Item;"] ++ wsX10)
def wsX1_removeFirst : List Cond := .code yX1_removeFirst cX1_removeFirst 2 none :: ([.fieldLink RX1 19 "LoopSorter$Induct" "waiting" "I", .fieldLink RX1 15 "LoopSorter$Induct" "row" "[LLoopSorter$Item;"] ++ wsX10)
def wsX2_init : List Cond := .code yX2_init cX2_init 4 none :: ([.methodLink RX2 1 objectInit, .instanceMethod objectInit, .code objectInit ⟨#[0xb1]⟩ 1 none, .fieldLink RX2 7 "LoopSorter$Item" "number" "I", .fieldLink RX2 13 "LoopSorter$Item" "length" "I", .fieldLink RX2 16 "LoopSorter$Item" "chute" "I", .fieldLink RX2 19 "LoopSorter$Place" "WAITING" "LLoopSorter$Place;", .fieldLink RX2 25 "LoopSorter$Item" "place" "LLoopSorter$Place;"] ++ wsX20)
def wsX4_bringWithin : List Cond := .code yX4_bringWithin cX4_bringWithin 2 (some .int) :: ([.methodLink RX4 142 Lib.Math.min.name, .static Lib.Math.min.name, .initialized "java/lang/Math", .code Lib.Math.min.name Lib.Math.min.code 2 (some .int), .methodLink RX4 147 Lib.Math.max.name, .static Lib.Math.max.name, .code Lib.Math.max.name Lib.Math.max.code 2 (some .int)])
def wsX4_init_r1 : List Cond := [Cond.methodLink RX4 1 objectInit, Cond.instanceMethod objectInit, Cond.code objectInit ⟨#[0xb1]⟩ 1 none, Cond.fieldLink RX4 13 "LoopSorter" "trayCount" "I", Cond.fieldLink RX4 17 "LoopSorter" "roundsAllowed" "I", Cond.classLink RX4 20 RX2, Cond.fieldLink RX4 22 "LoopSorter" "carriedBy" "[LLoopSorter$Item;", Cond.fieldLink RX4 26 "LoopSorter" "items" "[LLoopSorter$Item;", Cond.fieldLink RX4 29 "LoopSorter" "gone" "[LLoopSorter$Item;", Cond.fieldLink RX4 32 "LoopSorter" "movesPerStep" "I", Cond.classLink RX4 35 RX1, Cond.fieldLink RX4 37 "LoopSorter" "inducts" "[LLoopSorter$Induct;", Cond.instantiable RX1 5, Cond.initialized RX1, Cond.classLink RX4 44 RX0, Cond.fieldLink RX4 46 "LoopSorter" "chutes" "[LLoopSorter$Chute;", Cond.instantiable RX0 4, Cond.initialized RX0, Cond.methodLink RX4 9 yX4_bringWithin, Cond.static yX4_bringWithin, Cond.initialized RX4, Cond.code yX4_bringWithin cX4_bringWithin 2 (some .int), Cond.methodLink RX4 142 Lib.Math.min.name, Cond.static Lib.Math.min.name]
def wsX4_init_r2 : List Cond := [Cond.initialized "java/lang/Math", Cond.code Lib.Math.min.name Lib.Math.min.code 2 (some .int), Cond.methodLink RX4 147 Lib.Math.max.name, Cond.static Lib.Math.max.name, Cond.code Lib.Math.max.name Lib.Math.max.code 2 (some .int), Cond.methodLink RX4 41 yX1_init, Cond.instanceMethod yX1_init, Cond.code yX1_init cX1_init 2 none, Cond.methodLink RX1 1 objectInit, Cond.fieldLink RX1 7 "LoopSorter$Induct" "position" "I", Cond.classLink RX1 13 RX2, Cond.fieldLink RX1 15 "LoopSorter$Induct" "row" "[LLoopSorter$Item;", Cond.methodLink RX4 50 yX0_init, Cond.instanceMethod yX0_init, Cond.code yX0_init cX0_init 3 none, Cond.methodLink RX0 1 objectInit, Cond.fieldLink RX0 7 "LoopSorter$Chute" "position" "I", Cond.fieldLink RX0 13 "LoopSorter$Chute" "isOverflow" "Z"]
def wsX4_init : List Cond := .code yX4_init cX4_init 4 none :: ((wsX4_init_r1 ++ wsX4_init_r2) ++ wsX40 ++ wsX10 ++ wsX00)
def wsX4_isInduct : List Cond := .code yX4_isInduct cX4_isInduct 1 (some .boolean) :: ([])
def wsX4_isChute : List Cond := .code yX4_isChute cX4_isChute 1 (some .boolean) :: ([])
def wsX4_induct_r1 : List Cond := [Cond.fieldLink RX4 60 "LoopSorter" "itemCount" "I", Cond.fieldLink RX4 37 "LoopSorter" "inducts" "[LLoopSorter$Induct;", Cond.classLink RX4 20 RX2, Cond.instantiable RX2 8, Cond.initialized RX2, Cond.fieldLink RX4 26 "LoopSorter" "items" "[LLoopSorter$Item;", Cond.fieldLink RX4 74 "LoopSorter$Item" "number" "I", Cond.methodLink RX4 53 yX4_isInduct, Cond.static yX4_isInduct, Cond.initialized RX4, Cond.code yX4_isInduct cX4_isInduct 1 (some .boolean), Cond.methodLink RX4 57 yX4_isChute, Cond.static yX4_isChute, Cond.code yX4_isChute cX4_isChute 1 (some .boolean), Cond.methodLink RX4 63 yX1_isRowFull, Cond.instanceMethod yX1_isRowFull, Cond.selects RX1 yX1_isRowFull yX1_isRowFull, Cond.initialized RX1, Cond.code yX1_isRowFull cX1_isRowFull 1 (some .boolean), Cond.fieldLink RX1 19 "LoopSorter$Induct" "waiting" "I", Cond.methodLink RX4 67 yX2_init, Cond.instanceMethod yX2_init, Cond.code yX2_init cX2_init 4 none, Cond.methodLink RX2 1 objectInit]
def wsX4_induct_r2 : List Cond := [Cond.instanceMethod objectInit, Cond.code objectInit ⟨#[0xb1]⟩ 1 none, Cond.fieldLink RX2 7 "LoopSorter$Item" "number" "I", Cond.fieldLink RX2 13 "LoopSorter$Item" "length" "I", Cond.fieldLink RX2 16 "LoopSorter$Item" "chute" "I", Cond.fieldLink RX2 19 "LoopSorter$Place" "WAITING" "LLoopSorter$Place;", Cond.fieldLink RX2 25 "LoopSorter$Item" "place" "LLoopSorter$Place;", Cond.methodLink RX4 70 yX1_addLast, Cond.instanceMethod yX1_addLast, Cond.selects RX1 yX1_addLast yX1_addLast, Cond.code yX1_addLast cX1_addLast 2 none, Cond.fieldLink RX1 15 "LoopSorter$Induct" "row" "[LLoopSorter$Item;", Cond.methodLink RX1 22 yX1_isRowFull]
def wsX4_induct : List Cond := .code yX4_induct cX4_induct 5 (some .int) :: ((wsX4_induct_r1 ++ wsX4_induct_r2) ++ wsX40 ++ wsX20 ++ wsX10)
def wsX4_trayAt : List Cond := .code yX4_trayAt cX4_trayAt 3 (some .int) :: ([.fieldLink RX4 150 "LoopSorter" "shift" "I", .fieldLink RX4 13 "LoopSorter" "trayCount" "I"] ++ wsX40)
def wsX4_isTray : List Cond := .code yX4_isTray cX4_isTray 2 (some .boolean) :: ([.fieldLink RX4 13 "LoopSorter" "trayCount" "I"] ++ wsX40)
def wsX4_itemOn : List Cond := .code yX4_itemOn cX4_itemOn 2 (some (.object "LoopSorter$Item")) :: ([.fieldLink RX4 22 "LoopSorter" "carriedBy" "[LLoopSorter$Item;", .methodLink RX4 96 yX4_isTray, .instanceMethod yX4_isTray, .selects RX4 yX4_isTray yX4_isTray, .initialized RX4, .code yX4_isTray cX4_isTray 2 (some .boolean), .fieldLink RX4 13 "LoopSorter" "trayCount" "I"] ++ wsX40)
def wsX4_setTray : List Cond := .code yX4_setTray cX4_setTray 3 none :: ([.fieldLink RX4 13 "LoopSorter" "trayCount" "I", .fieldLink RX4 22 "LoopSorter" "carriedBy" "[LLoopSorter$Item;"] ++ wsX40)
def wsX4_trayBehind : List Cond := .code yX4_trayBehind cX4_trayBehind 2 (some .int) :: ([.fieldLink RX4 13 "LoopSorter" "trayCount" "I"] ++ wsX40)
def wsX4_setTraysOf : List Cond := .code yX4_setTraysOf cX4_setTraysOf 3 none :: ([.fieldLink RX4 133 "LoopSorter$Item" "ownTray" "I", .fieldLink RX4 216 "LoopSorter$Item" "length" "I", .methodLink RX4 222 yX4_setTray, .instanceMethod yX4_setTray, .selects RX4 yX4_setTray yX4_setTray, .initialized RX4, .code yX4_setTray cX4_setTray 3 none, .fieldLink RX4 13 "LoopSorter" "trayCount" "I", .fieldLink RX4 22 "LoopSorter" "carriedBy" "[LLoopSorter$Item;", .methodLink RX4 219 yX4_trayBehind, .instanceMethod yX4_trayBehind, .selects RX4 yX4_trayBehind yX4_trayBehind, .code yX4_trayBehind cX4_trayBehind 2 (some .int)] ++ wsX20 ++ wsX40)
def wsX4_letOut_r1 : List Cond := [Cond.fieldLink RX4 153 "LoopSorter" "carriedCount" "I", Cond.fieldLink RX4 46 "LoopSorter" "chutes" "[LLoopSorter$Chute;", Cond.fieldLink RX4 109 "LoopSorter$Chute" "lying" "I", Cond.fieldLink RX4 189 "LoopSorter$Place" "OUT" "LLoopSorter$Place;", Cond.fieldLink RX4 121 "LoopSorter$Item" "place" "LLoopSorter$Place;", Cond.fieldLink RX4 87 "LoopSorter$Item" "outChute" "I", Cond.fieldLink RX4 159 "LoopSorter" "time" "I", Cond.fieldLink RX4 90 "LoopSorter$Item" "outTime" "I", Cond.fieldLink RX4 77 "LoopSorter" "goneCount" "I", Cond.fieldLink RX4 29 "LoopSorter" "gone" "[LLoopSorter$Item;", Cond.methodLink RX4 185 yX4_setTraysOf, Cond.instanceMethod yX4_setTraysOf, Cond.selects RX4 yX4_setTraysOf yX4_setTraysOf, Cond.initialized RX4, Cond.code yX4_setTraysOf cX4_setTraysOf 3 none, Cond.fieldLink RX4 133 "LoopSorter$Item" "ownTray" "I", Cond.fieldLink RX4 216 "LoopSorter$Item" "length" "I", Cond.methodLink RX4 222 yX4_setTray, Cond.instanceMethod yX4_setTray, Cond.selects RX4 yX4_setTray yX4_setTray, Cond.code yX4_setTray cX4_setTray 3 none, Cond.fieldLink RX4 13 "LoopSorter" "trayCount" "I", Cond.fieldLink RX4 22 "LoopSorter" "carriedBy" "[LLoopSorter$Item;", Cond.methodLink RX4 219 yX4_trayBehind]
def wsX4_letOut_r2 : List Cond := [Cond.instanceMethod yX4_trayBehind, Cond.selects RX4 yX4_trayBehind yX4_trayBehind, Cond.code yX4_trayBehind cX4_trayBehind 2 (some .int)]
def wsX4_letOut : List Cond := .code yX4_letOut cX4_letOut 3 none :: ((wsX4_letOut_r1 ++ wsX4_letOut_r2) ++ wsX40 ++ wsX00 ++ wsX20)
def wsX4_passChute_r1 : List Cond := [Cond.fieldLink RX4 176 "LoopSorter$Item" "chute" "I", Cond.fieldLink RX4 93 "LoopSorter$Item" "rounds" "I", Cond.fieldLink RX4 17 "LoopSorter" "roundsAllowed" "I", Cond.fieldLink RX4 46 "LoopSorter" "chutes" "[LLoopSorter$Chute;", Cond.methodLink RX4 179 yX0_hasRoom, Cond.instanceMethod yX0_hasRoom, Cond.selects RX0 yX0_hasRoom yX0_hasRoom, Cond.initialized RX0, Cond.code yX0_hasRoom cX0_hasRoom 1 (some .boolean), Cond.fieldLink RX0 13 "LoopSorter$Chute" "isOverflow" "Z", Cond.fieldLink RX0 17 "LoopSorter$Chute" "heldShut" "Z", Cond.fieldLink RX0 20 "LoopSorter$Chute" "lying" "I", Cond.methodLink RX4 182 yX4_letOut, Cond.instanceMethod yX4_letOut, Cond.selects RX4 yX4_letOut yX4_letOut, Cond.initialized RX4, Cond.code yX4_letOut cX4_letOut 3 none, Cond.fieldLink RX4 153 "LoopSorter" "carriedCount" "I", Cond.fieldLink RX4 109 "LoopSorter$Chute" "lying" "I", Cond.fieldLink RX4 189 "LoopSorter$Place" "OUT" "LLoopSorter$Place;", Cond.fieldLink RX4 121 "LoopSorter$Item" "place" "LLoopSorter$Place;", Cond.fieldLink RX4 87 "LoopSorter$Item" "outChute" "I", Cond.fieldLink RX4 159 "LoopSorter" "time" "I", Cond.fieldLink RX4 90 "LoopSorter$Item" "outTime" "I"]
def wsX4_passChute_r2 : List Cond := [Cond.fieldLink RX4 77 "LoopSorter" "goneCount" "I", Cond.fieldLink RX4 29 "LoopSorter" "gone" "[LLoopSorter$Item;", Cond.methodLink RX4 185 yX4_setTraysOf, Cond.instanceMethod yX4_setTraysOf, Cond.selects RX4 yX4_setTraysOf yX4_setTraysOf, Cond.code yX4_setTraysOf cX4_setTraysOf 3 none, Cond.fieldLink RX4 133 "LoopSorter$Item" "ownTray" "I", Cond.fieldLink RX4 216 "LoopSorter$Item" "length" "I", Cond.methodLink RX4 222 yX4_setTray, Cond.instanceMethod yX4_setTray, Cond.selects RX4 yX4_setTray yX4_setTray, Cond.code yX4_setTray cX4_setTray 3 none, Cond.fieldLink RX4 13 "LoopSorter" "trayCount" "I", Cond.fieldLink RX4 22 "LoopSorter" "carriedBy" "[LLoopSorter$Item;", Cond.methodLink RX4 219 yX4_trayBehind, Cond.instanceMethod yX4_trayBehind, Cond.selects RX4 yX4_trayBehind yX4_trayBehind, Cond.code yX4_trayBehind cX4_trayBehind 2 (some .int)]
def wsX4_passChute : List Cond := .code yX4_passChute cX4_passChute 5 none :: ((wsX4_passChute_r1 ++ wsX4_passChute_r2) ++ wsX20 ++ wsX40 ++ wsX00)
def wsX4_passChutes_r1 : List Cond := [Cond.fieldLink RX4 46 "LoopSorter" "chutes" "[LLoopSorter$Chute;", Cond.fieldLink RX4 165 "LoopSorter$Chute" "position" "I", Cond.fieldLink RX4 133 "LoopSorter$Item" "ownTray" "I", Cond.fieldLink RX4 121 "LoopSorter$Item" "place" "LLoopSorter$Place;", Cond.fieldLink RX4 125 "LoopSorter$Place" "CARRIED" "LLoopSorter$Place;", Cond.methodLink RX4 168 yX4_trayAt, Cond.instanceMethod yX4_trayAt, Cond.selects RX4 yX4_trayAt yX4_trayAt, Cond.initialized RX4, Cond.code yX4_trayAt cX4_trayAt 3 (some .int), Cond.fieldLink RX4 150 "LoopSorter" "shift" "I", Cond.fieldLink RX4 13 "LoopSorter" "trayCount" "I", Cond.methodLink RX4 106 yX4_itemOn, Cond.instanceMethod yX4_itemOn, Cond.selects RX4 yX4_itemOn yX4_itemOn, Cond.code yX4_itemOn cX4_itemOn 2 (some (.object "LoopSorter$Item")), Cond.fieldLink RX4 22 "LoopSorter" "carriedBy" "[LLoopSorter$Item;", Cond.methodLink RX4 96 yX4_isTray, Cond.instanceMethod yX4_isTray, Cond.selects RX4 yX4_isTray yX4_isTray, Cond.code yX4_isTray cX4_isTray 2 (some .boolean), Cond.methodLink RX4 172 yX4_passChute, Cond.instanceMethod yX4_passChute, Cond.selects RX4 yX4_passChute yX4_passChute]
def wsX4_passChutes_r2 : List Cond := [Cond.code yX4_passChute cX4_passChute 5 none, Cond.fieldLink RX4 176 "LoopSorter$Item" "chute" "I", Cond.fieldLink RX4 93 "LoopSorter$Item" "rounds" "I", Cond.fieldLink RX4 17 "LoopSorter" "roundsAllowed" "I", Cond.methodLink RX4 179 yX0_hasRoom, Cond.instanceMethod yX0_hasRoom, Cond.selects RX0 yX0_hasRoom yX0_hasRoom, Cond.initialized RX0, Cond.code yX0_hasRoom cX0_hasRoom 1 (some .boolean), Cond.fieldLink RX0 13 "LoopSorter$Chute" "isOverflow" "Z", Cond.fieldLink RX0 17 "LoopSorter$Chute" "heldShut" "Z", Cond.fieldLink RX0 20 "LoopSorter$Chute" "lying" "I", Cond.methodLink RX4 182 yX4_letOut, Cond.instanceMethod yX4_letOut, Cond.selects RX4 yX4_letOut yX4_letOut, Cond.code yX4_letOut cX4_letOut 3 none, Cond.fieldLink RX4 153 "LoopSorter" "carriedCount" "I", Cond.fieldLink RX4 109 "LoopSorter$Chute" "lying" "I", Cond.fieldLink RX4 189 "LoopSorter$Place" "OUT" "LLoopSorter$Place;", Cond.fieldLink RX4 87 "LoopSorter$Item" "outChute" "I", Cond.fieldLink RX4 159 "LoopSorter" "time" "I", Cond.fieldLink RX4 90 "LoopSorter$Item" "outTime" "I", Cond.fieldLink RX4 77 "LoopSorter" "goneCount" "I", Cond.fieldLink RX4 29 "LoopSorter" "gone" "[LLoopSorter$Item;"]
def wsX4_passChutes_r3 : List Cond := [Cond.methodLink RX4 185 yX4_setTraysOf, Cond.instanceMethod yX4_setTraysOf, Cond.selects RX4 yX4_setTraysOf yX4_setTraysOf, Cond.code yX4_setTraysOf cX4_setTraysOf 3 none, Cond.fieldLink RX4 216 "LoopSorter$Item" "length" "I", Cond.methodLink RX4 222 yX4_setTray, Cond.instanceMethod yX4_setTray, Cond.selects RX4 yX4_setTray yX4_setTray, Cond.code yX4_setTray cX4_setTray 3 none, Cond.methodLink RX4 219 yX4_trayBehind, Cond.instanceMethod yX4_trayBehind, Cond.selects RX4 yX4_trayBehind yX4_trayBehind, Cond.code yX4_trayBehind cX4_trayBehind 2 (some .int)]
def wsX4_passChutes : List Cond := .code yX4_passChutes cX4_passChutes 4 none :: ((wsX4_passChutes_r1 ++ (wsX4_passChutes_r2 ++ wsX4_passChutes_r3)) ++ wsX40 ++ wsX00 ++ wsX20)
def wsX4_nextInTurn : List Cond := .code yX4_nextInTurn cX4_nextInTurn 4 (some (.object "LoopSorter$Induct")) :: ([.fieldLink RX4 37 "LoopSorter" "inducts" "[LLoopSorter$Induct;", .fieldLink RX4 192 "LoopSorter$Induct" "hadTurn" "Z", .fieldLink RX4 136 "LoopSorter$Induct" "putOnCount" "J"] ++ wsX40 ++ wsX10)
def wsX4_isFreeFor : List Cond := .code yX4_isFreeFor cX4_isFreeFor 3 (some .boolean) :: ([.fieldLink RX4 216 "LoopSorter$Item" "length" "I", .fieldLink RX4 13 "LoopSorter" "trayCount" "I", .methodLink RX4 106 yX4_itemOn, .instanceMethod yX4_itemOn, .selects RX4 yX4_itemOn yX4_itemOn, .initialized RX4, .code yX4_itemOn cX4_itemOn 2 (some (.object "LoopSorter$Item")), .fieldLink RX4 22 "LoopSorter" "carriedBy" "[LLoopSorter$Item;", .methodLink RX4 96 yX4_isTray, .instanceMethod yX4_isTray, .selects RX4 yX4_isTray yX4_isTray, .code yX4_isTray cX4_isTray 2 (some .boolean), .methodLink RX4 219 yX4_trayBehind, .instanceMethod yX4_trayBehind, .selects RX4 yX4_trayBehind yX4_trayBehind, .code yX4_trayBehind cX4_trayBehind 2 (some .int)] ++ wsX20 ++ wsX40)
def wsX4_putFirstOn_r1 : List Cond := [Cond.fieldLink RX4 208 "LoopSorter$Induct" "position" "I", Cond.fieldLink RX4 136 "LoopSorter$Induct" "putOnCount" "J", Cond.fieldLink RX4 133 "LoopSorter$Item" "ownTray" "I", Cond.fieldLink RX4 125 "LoopSorter$Place" "CARRIED" "LLoopSorter$Place;", Cond.fieldLink RX4 121 "LoopSorter$Item" "place" "LLoopSorter$Place;", Cond.fieldLink RX4 153 "LoopSorter" "carriedCount" "I", Cond.methodLink RX4 204 yX1_first, Cond.instanceMethod yX1_first, Cond.selects RX1 yX1_first yX1_first, Cond.initialized RX1, Cond.code yX1_first cX1_first 1 (some (.object "LoopSorter$Item")), Cond.fieldLink RX1 19 "LoopSorter$Induct" "waiting" "I", Cond.fieldLink RX1 15 "LoopSorter$Induct" "row" "[LLoopSorter$Item;", Cond.methodLink RX4 168 yX4_trayAt, Cond.instanceMethod yX4_trayAt, Cond.selects RX4 yX4_trayAt yX4_trayAt, Cond.initialized RX4, Cond.code yX4_trayAt cX4_trayAt 3 (some .int), Cond.fieldLink RX4 150 "LoopSorter" "shift" "I", Cond.fieldLink RX4 13 "LoopSorter" "trayCount" "I", Cond.methodLink RX4 209 yX4_isFreeFor, Cond.instanceMethod yX4_isFreeFor, Cond.selects RX4 yX4_isFreeFor yX4_isFreeFor, Cond.code yX4_isFreeFor cX4_isFreeFor 3 (some .boolean)]
def wsX4_putFirstOn_r2 : List Cond := [Cond.fieldLink RX4 216 "LoopSorter$Item" "length" "I", Cond.methodLink RX4 106 yX4_itemOn, Cond.instanceMethod yX4_itemOn, Cond.selects RX4 yX4_itemOn yX4_itemOn, Cond.code yX4_itemOn cX4_itemOn 2 (some (.object "LoopSorter$Item")), Cond.fieldLink RX4 22 "LoopSorter" "carriedBy" "[LLoopSorter$Item;", Cond.methodLink RX4 96 yX4_isTray, Cond.instanceMethod yX4_isTray, Cond.selects RX4 yX4_isTray yX4_isTray, Cond.code yX4_isTray cX4_isTray 2 (some .boolean), Cond.methodLink RX4 219 yX4_trayBehind, Cond.instanceMethod yX4_trayBehind, Cond.selects RX4 yX4_trayBehind yX4_trayBehind, Cond.code yX4_trayBehind cX4_trayBehind 2 (some .int), Cond.methodLink RX4 213 yX1_removeFirst, Cond.instanceMethod yX1_removeFirst, Cond.selects RX1 yX1_removeFirst yX1_removeFirst, Cond.code yX1_removeFirst cX1_removeFirst 2 none, Cond.methodLink RX4 185 yX4_setTraysOf, Cond.instanceMethod yX4_setTraysOf, Cond.selects RX4 yX4_setTraysOf yX4_setTraysOf, Cond.code yX4_setTraysOf cX4_setTraysOf 3 none, Cond.methodLink RX4 222 yX4_setTray, Cond.instanceMethod yX4_setTray]
def wsX4_putFirstOn_r3 : List Cond := [Cond.selects RX4 yX4_setTray yX4_setTray, Cond.code yX4_setTray cX4_setTray 3 none]
def wsX4_putFirstOn : List Cond := .code yX4_putFirstOn cX4_putFirstOn 4 none :: ((wsX4_putFirstOn_r1 ++ (wsX4_putFirstOn_r2 ++ wsX4_putFirstOn_r3)) ++ wsX10 ++ wsX20 ++ wsX40)
def wsX4_takeTurns_r1 : List Cond := [Cond.fieldLink RX4 37 "LoopSorter" "inducts" "[LLoopSorter$Induct;", Cond.fieldLink RX4 192 "LoopSorter$Induct" "hadTurn" "Z", Cond.methodLink RX4 196 yX4_nextInTurn, Cond.instanceMethod yX4_nextInTurn, Cond.selects RX4 yX4_nextInTurn yX4_nextInTurn, Cond.initialized RX4, Cond.code yX4_nextInTurn cX4_nextInTurn 4 (some (.object "LoopSorter$Induct")), Cond.fieldLink RX4 136 "LoopSorter$Induct" "putOnCount" "J", Cond.methodLink RX4 200 yX4_putFirstOn, Cond.instanceMethod yX4_putFirstOn, Cond.selects RX4 yX4_putFirstOn yX4_putFirstOn, Cond.code yX4_putFirstOn cX4_putFirstOn 4 none, Cond.fieldLink RX4 208 "LoopSorter$Induct" "position" "I", Cond.fieldLink RX4 133 "LoopSorter$Item" "ownTray" "I", Cond.fieldLink RX4 125 "LoopSorter$Place" "CARRIED" "LLoopSorter$Place;", Cond.fieldLink RX4 121 "LoopSorter$Item" "place" "LLoopSorter$Place;", Cond.fieldLink RX4 153 "LoopSorter" "carriedCount" "I", Cond.methodLink RX4 204 yX1_first, Cond.instanceMethod yX1_first, Cond.selects RX1 yX1_first yX1_first, Cond.initialized RX1, Cond.code yX1_first cX1_first 1 (some (.object "LoopSorter$Item")), Cond.fieldLink RX1 19 "LoopSorter$Induct" "waiting" "I", Cond.fieldLink RX1 15 "LoopSorter$Induct" "row" "[LLoopSorter$Item;"]
def wsX4_takeTurns_r2 : List Cond := [Cond.methodLink RX4 168 yX4_trayAt, Cond.instanceMethod yX4_trayAt, Cond.selects RX4 yX4_trayAt yX4_trayAt, Cond.code yX4_trayAt cX4_trayAt 3 (some .int), Cond.fieldLink RX4 150 "LoopSorter" "shift" "I", Cond.fieldLink RX4 13 "LoopSorter" "trayCount" "I", Cond.methodLink RX4 209 yX4_isFreeFor, Cond.instanceMethod yX4_isFreeFor, Cond.selects RX4 yX4_isFreeFor yX4_isFreeFor, Cond.code yX4_isFreeFor cX4_isFreeFor 3 (some .boolean), Cond.fieldLink RX4 216 "LoopSorter$Item" "length" "I", Cond.methodLink RX4 106 yX4_itemOn, Cond.instanceMethod yX4_itemOn, Cond.selects RX4 yX4_itemOn yX4_itemOn, Cond.code yX4_itemOn cX4_itemOn 2 (some (.object "LoopSorter$Item")), Cond.fieldLink RX4 22 "LoopSorter" "carriedBy" "[LLoopSorter$Item;", Cond.methodLink RX4 96 yX4_isTray, Cond.instanceMethod yX4_isTray, Cond.selects RX4 yX4_isTray yX4_isTray, Cond.code yX4_isTray cX4_isTray 2 (some .boolean), Cond.methodLink RX4 219 yX4_trayBehind, Cond.instanceMethod yX4_trayBehind, Cond.selects RX4 yX4_trayBehind yX4_trayBehind, Cond.code yX4_trayBehind cX4_trayBehind 2 (some .int)]
def wsX4_takeTurns_r3 : List Cond := [Cond.methodLink RX4 213 yX1_removeFirst, Cond.instanceMethod yX1_removeFirst, Cond.selects RX1 yX1_removeFirst yX1_removeFirst, Cond.code yX1_removeFirst cX1_removeFirst 2 none, Cond.methodLink RX4 185 yX4_setTraysOf, Cond.instanceMethod yX4_setTraysOf, Cond.selects RX4 yX4_setTraysOf yX4_setTraysOf, Cond.code yX4_setTraysOf cX4_setTraysOf 3 none, Cond.methodLink RX4 222 yX4_setTray, Cond.instanceMethod yX4_setTray, Cond.selects RX4 yX4_setTray yX4_setTray, Cond.code yX4_setTray cX4_setTray 3 none]
def wsX4_takeTurns : List Cond := .code yX4_takeTurns cX4_takeTurns 3 none :: ((wsX4_takeTurns_r1 ++ (wsX4_takeTurns_r2 ++ wsX4_takeTurns_r3)) ++ wsX40 ++ wsX10 ++ wsX20)
def wsX4_runOneStep_r1 : List Cond := [Cond.fieldLink RX4 32 "LoopSorter" "movesPerStep" "I", Cond.fieldLink RX4 150 "LoopSorter" "shift" "I", Cond.fieldLink RX4 13 "LoopSorter" "trayCount" "I", Cond.fieldLink RX4 153 "LoopSorter" "carriedCount" "I", Cond.fieldLink RX4 159 "LoopSorter" "time" "I", Cond.methodLink RX4 156 yX4_passChutes, Cond.instanceMethod yX4_passChutes, Cond.selects RX4 yX4_passChutes yX4_passChutes, Cond.initialized RX4, Cond.code yX4_passChutes cX4_passChutes 4 none, Cond.fieldLink RX4 46 "LoopSorter" "chutes" "[LLoopSorter$Chute;", Cond.fieldLink RX4 165 "LoopSorter$Chute" "position" "I", Cond.fieldLink RX4 133 "LoopSorter$Item" "ownTray" "I", Cond.fieldLink RX4 121 "LoopSorter$Item" "place" "LLoopSorter$Place;", Cond.fieldLink RX4 125 "LoopSorter$Place" "CARRIED" "LLoopSorter$Place;", Cond.methodLink RX4 168 yX4_trayAt, Cond.instanceMethod yX4_trayAt, Cond.selects RX4 yX4_trayAt yX4_trayAt, Cond.code yX4_trayAt cX4_trayAt 3 (some .int), Cond.methodLink RX4 106 yX4_itemOn, Cond.instanceMethod yX4_itemOn, Cond.selects RX4 yX4_itemOn yX4_itemOn, Cond.code yX4_itemOn cX4_itemOn 2 (some (.object "LoopSorter$Item")), Cond.fieldLink RX4 22 "LoopSorter" "carriedBy" "[LLoopSorter$Item;"]
def wsX4_runOneStep_r2 : List Cond := [Cond.methodLink RX4 96 yX4_isTray, Cond.instanceMethod yX4_isTray, Cond.selects RX4 yX4_isTray yX4_isTray, Cond.code yX4_isTray cX4_isTray 2 (some .boolean), Cond.methodLink RX4 172 yX4_passChute, Cond.instanceMethod yX4_passChute, Cond.selects RX4 yX4_passChute yX4_passChute, Cond.code yX4_passChute cX4_passChute 5 none, Cond.fieldLink RX4 176 "LoopSorter$Item" "chute" "I", Cond.fieldLink RX4 93 "LoopSorter$Item" "rounds" "I", Cond.fieldLink RX4 17 "LoopSorter" "roundsAllowed" "I", Cond.methodLink RX4 179 yX0_hasRoom, Cond.instanceMethod yX0_hasRoom, Cond.selects RX0 yX0_hasRoom yX0_hasRoom, Cond.initialized RX0, Cond.code yX0_hasRoom cX0_hasRoom 1 (some .boolean), Cond.fieldLink RX0 13 "LoopSorter$Chute" "isOverflow" "Z", Cond.fieldLink RX0 17 "LoopSorter$Chute" "heldShut" "Z", Cond.fieldLink RX0 20 "LoopSorter$Chute" "lying" "I", Cond.methodLink RX4 182 yX4_letOut, Cond.instanceMethod yX4_letOut, Cond.selects RX4 yX4_letOut yX4_letOut, Cond.code yX4_letOut cX4_letOut 3 none, Cond.fieldLink RX4 109 "LoopSorter$Chute" "lying" "I"]
def wsX4_runOneStep_r3 : List Cond := [Cond.fieldLink RX4 189 "LoopSorter$Place" "OUT" "LLoopSorter$Place;", Cond.fieldLink RX4 87 "LoopSorter$Item" "outChute" "I", Cond.fieldLink RX4 90 "LoopSorter$Item" "outTime" "I", Cond.fieldLink RX4 77 "LoopSorter" "goneCount" "I", Cond.fieldLink RX4 29 "LoopSorter" "gone" "[LLoopSorter$Item;", Cond.methodLink RX4 185 yX4_setTraysOf, Cond.instanceMethod yX4_setTraysOf, Cond.selects RX4 yX4_setTraysOf yX4_setTraysOf, Cond.code yX4_setTraysOf cX4_setTraysOf 3 none, Cond.fieldLink RX4 216 "LoopSorter$Item" "length" "I", Cond.methodLink RX4 222 yX4_setTray, Cond.instanceMethod yX4_setTray, Cond.selects RX4 yX4_setTray yX4_setTray, Cond.code yX4_setTray cX4_setTray 3 none, Cond.methodLink RX4 219 yX4_trayBehind, Cond.instanceMethod yX4_trayBehind, Cond.selects RX4 yX4_trayBehind yX4_trayBehind, Cond.code yX4_trayBehind cX4_trayBehind 2 (some .int), Cond.methodLink RX4 162 yX4_takeTurns, Cond.instanceMethod yX4_takeTurns, Cond.selects RX4 yX4_takeTurns yX4_takeTurns, Cond.code yX4_takeTurns cX4_takeTurns 3 none, Cond.fieldLink RX4 37 "LoopSorter" "inducts" "[LLoopSorter$Induct;", Cond.fieldLink RX4 192 "LoopSorter$Induct" "hadTurn" "Z"]
def wsX4_runOneStep_r4 : List Cond := [Cond.methodLink RX4 196 yX4_nextInTurn, Cond.instanceMethod yX4_nextInTurn, Cond.selects RX4 yX4_nextInTurn yX4_nextInTurn, Cond.code yX4_nextInTurn cX4_nextInTurn 4 (some (.object "LoopSorter$Induct")), Cond.fieldLink RX4 136 "LoopSorter$Induct" "putOnCount" "J", Cond.methodLink RX4 200 yX4_putFirstOn, Cond.instanceMethod yX4_putFirstOn, Cond.selects RX4 yX4_putFirstOn yX4_putFirstOn, Cond.code yX4_putFirstOn cX4_putFirstOn 4 none, Cond.fieldLink RX4 208 "LoopSorter$Induct" "position" "I", Cond.methodLink RX4 204 yX1_first, Cond.instanceMethod yX1_first, Cond.selects RX1 yX1_first yX1_first, Cond.initialized RX1, Cond.code yX1_first cX1_first 1 (some (.object "LoopSorter$Item")), Cond.fieldLink RX1 19 "LoopSorter$Induct" "waiting" "I", Cond.fieldLink RX1 15 "LoopSorter$Induct" "row" "[LLoopSorter$Item;", Cond.methodLink RX4 209 yX4_isFreeFor, Cond.instanceMethod yX4_isFreeFor, Cond.selects RX4 yX4_isFreeFor yX4_isFreeFor, Cond.code yX4_isFreeFor cX4_isFreeFor 3 (some .boolean), Cond.methodLink RX4 213 yX1_removeFirst, Cond.instanceMethod yX1_removeFirst, Cond.selects RX1 yX1_removeFirst yX1_removeFirst]
def wsX4_runOneStep_r5 : List Cond := [Cond.code yX1_removeFirst cX1_removeFirst 2 none]
def wsX4_runOneStep : List Cond := .code yX4_runOneStep cX4_runOneStep 2 none :: ((wsX4_runOneStep_r1 ++ (wsX4_runOneStep_r2 ++ (wsX4_runOneStep_r3 ++ (wsX4_runOneStep_r4 ++ wsX4_runOneStep_r5)))) ++ wsX40 ++ wsX00 ++ wsX20 ++ wsX10)
def wsX4_step_r1 : List Cond := [Cond.fieldLink RX4 77 "LoopSorter" "goneCount" "I", Cond.methodLink RX4 80 yX4_runOneStep, Cond.instanceMethod yX4_runOneStep, Cond.selects RX4 yX4_runOneStep yX4_runOneStep, Cond.initialized RX4, Cond.code yX4_runOneStep cX4_runOneStep 2 none, Cond.fieldLink RX4 32 "LoopSorter" "movesPerStep" "I", Cond.fieldLink RX4 150 "LoopSorter" "shift" "I", Cond.fieldLink RX4 13 "LoopSorter" "trayCount" "I", Cond.fieldLink RX4 153 "LoopSorter" "carriedCount" "I", Cond.fieldLink RX4 159 "LoopSorter" "time" "I", Cond.methodLink RX4 156 yX4_passChutes, Cond.instanceMethod yX4_passChutes, Cond.selects RX4 yX4_passChutes yX4_passChutes, Cond.code yX4_passChutes cX4_passChutes 4 none, Cond.fieldLink RX4 46 "LoopSorter" "chutes" "[LLoopSorter$Chute;", Cond.fieldLink RX4 165 "LoopSorter$Chute" "position" "I", Cond.fieldLink RX4 133 "LoopSorter$Item" "ownTray" "I", Cond.fieldLink RX4 121 "LoopSorter$Item" "place" "LLoopSorter$Place;", Cond.fieldLink RX4 125 "LoopSorter$Place" "CARRIED" "LLoopSorter$Place;", Cond.methodLink RX4 168 yX4_trayAt, Cond.instanceMethod yX4_trayAt, Cond.selects RX4 yX4_trayAt yX4_trayAt, Cond.code yX4_trayAt cX4_trayAt 3 (some .int)]
def wsX4_step_r2 : List Cond := [Cond.methodLink RX4 106 yX4_itemOn, Cond.instanceMethod yX4_itemOn, Cond.selects RX4 yX4_itemOn yX4_itemOn, Cond.code yX4_itemOn cX4_itemOn 2 (some (.object "LoopSorter$Item")), Cond.fieldLink RX4 22 "LoopSorter" "carriedBy" "[LLoopSorter$Item;", Cond.methodLink RX4 96 yX4_isTray, Cond.instanceMethod yX4_isTray, Cond.selects RX4 yX4_isTray yX4_isTray, Cond.code yX4_isTray cX4_isTray 2 (some .boolean), Cond.methodLink RX4 172 yX4_passChute, Cond.instanceMethod yX4_passChute, Cond.selects RX4 yX4_passChute yX4_passChute, Cond.code yX4_passChute cX4_passChute 5 none, Cond.fieldLink RX4 176 "LoopSorter$Item" "chute" "I", Cond.fieldLink RX4 93 "LoopSorter$Item" "rounds" "I", Cond.fieldLink RX4 17 "LoopSorter" "roundsAllowed" "I", Cond.methodLink RX4 179 yX0_hasRoom, Cond.instanceMethod yX0_hasRoom, Cond.selects RX0 yX0_hasRoom yX0_hasRoom, Cond.initialized RX0, Cond.code yX0_hasRoom cX0_hasRoom 1 (some .boolean), Cond.fieldLink RX0 13 "LoopSorter$Chute" "isOverflow" "Z", Cond.fieldLink RX0 17 "LoopSorter$Chute" "heldShut" "Z", Cond.fieldLink RX0 20 "LoopSorter$Chute" "lying" "I"]
def wsX4_step_r3 : List Cond := [Cond.methodLink RX4 182 yX4_letOut, Cond.instanceMethod yX4_letOut, Cond.selects RX4 yX4_letOut yX4_letOut, Cond.code yX4_letOut cX4_letOut 3 none, Cond.fieldLink RX4 109 "LoopSorter$Chute" "lying" "I", Cond.fieldLink RX4 189 "LoopSorter$Place" "OUT" "LLoopSorter$Place;", Cond.fieldLink RX4 87 "LoopSorter$Item" "outChute" "I", Cond.fieldLink RX4 90 "LoopSorter$Item" "outTime" "I", Cond.fieldLink RX4 29 "LoopSorter" "gone" "[LLoopSorter$Item;", Cond.methodLink RX4 185 yX4_setTraysOf, Cond.instanceMethod yX4_setTraysOf, Cond.selects RX4 yX4_setTraysOf yX4_setTraysOf, Cond.code yX4_setTraysOf cX4_setTraysOf 3 none, Cond.fieldLink RX4 216 "LoopSorter$Item" "length" "I", Cond.methodLink RX4 222 yX4_setTray, Cond.instanceMethod yX4_setTray, Cond.selects RX4 yX4_setTray yX4_setTray, Cond.code yX4_setTray cX4_setTray 3 none, Cond.methodLink RX4 219 yX4_trayBehind, Cond.instanceMethod yX4_trayBehind, Cond.selects RX4 yX4_trayBehind yX4_trayBehind, Cond.code yX4_trayBehind cX4_trayBehind 2 (some .int), Cond.methodLink RX4 162 yX4_takeTurns, Cond.instanceMethod yX4_takeTurns]
def wsX4_step_r4 : List Cond := [Cond.selects RX4 yX4_takeTurns yX4_takeTurns, Cond.code yX4_takeTurns cX4_takeTurns 3 none, Cond.fieldLink RX4 37 "LoopSorter" "inducts" "[LLoopSorter$Induct;", Cond.fieldLink RX4 192 "LoopSorter$Induct" "hadTurn" "Z", Cond.methodLink RX4 196 yX4_nextInTurn, Cond.instanceMethod yX4_nextInTurn, Cond.selects RX4 yX4_nextInTurn yX4_nextInTurn, Cond.code yX4_nextInTurn cX4_nextInTurn 4 (some (.object "LoopSorter$Induct")), Cond.fieldLink RX4 136 "LoopSorter$Induct" "putOnCount" "J", Cond.methodLink RX4 200 yX4_putFirstOn, Cond.instanceMethod yX4_putFirstOn, Cond.selects RX4 yX4_putFirstOn yX4_putFirstOn, Cond.code yX4_putFirstOn cX4_putFirstOn 4 none, Cond.fieldLink RX4 208 "LoopSorter$Induct" "position" "I", Cond.methodLink RX4 204 yX1_first, Cond.instanceMethod yX1_first, Cond.selects RX1 yX1_first yX1_first, Cond.initialized RX1, Cond.code yX1_first cX1_first 1 (some (.object "LoopSorter$Item")), Cond.fieldLink RX1 19 "LoopSorter$Induct" "waiting" "I", Cond.fieldLink RX1 15 "LoopSorter$Induct" "row" "[LLoopSorter$Item;", Cond.methodLink RX4 209 yX4_isFreeFor, Cond.instanceMethod yX4_isFreeFor, Cond.selects RX4 yX4_isFreeFor yX4_isFreeFor]
def wsX4_step_r5 : List Cond := [Cond.code yX4_isFreeFor cX4_isFreeFor 3 (some .boolean), Cond.methodLink RX4 213 yX1_removeFirst, Cond.instanceMethod yX1_removeFirst, Cond.selects RX1 yX1_removeFirst yX1_removeFirst, Cond.code yX1_removeFirst cX1_removeFirst 2 none]
def wsX4_step : List Cond := .code yX4_step cX4_step 4 (some .int) :: ((wsX4_step_r1 ++ (wsX4_step_r2 ++ (wsX4_step_r3 ++ (wsX4_step_r4 ++ wsX4_step_r5)))) ++ wsX40 ++ wsX00 ++ wsX20 ++ wsX10)
def wsX4_itemGoneAs : List Cond := .code yX4_itemGoneAs cX4_itemGoneAs 2 (some (.object "LoopSorter$Item")) :: ([.fieldLink RX4 77 "LoopSorter" "goneCount" "I", .fieldLink RX4 29 "LoopSorter" "gone" "[LLoopSorter$Item;"] ++ wsX40)
def wsX4_out : List Cond := .code yX4_out cX4_out 4 (some .int) :: ([.fieldLink RX4 74 "LoopSorter$Item" "number" "I", .fieldLink RX4 87 "LoopSorter$Item" "outChute" "I", .fieldLink RX4 90 "LoopSorter$Item" "outTime" "I", .fieldLink RX4 93 "LoopSorter$Item" "rounds" "I", .methodLink RX4 83 yX4_itemGoneAs, .instanceMethod yX4_itemGoneAs, .selects RX4 yX4_itemGoneAs yX4_itemGoneAs, .initialized RX4, .code yX4_itemGoneAs cX4_itemGoneAs 2 (some (.object "LoopSorter$Item")), .fieldLink RX4 77 "LoopSorter" "goneCount" "I", .fieldLink RX4 29 "LoopSorter" "gone" "[LLoopSorter$Item;"] ++ wsX20 ++ wsX40)
def wsX4_tray : List Cond := .code yX4_tray cX4_tray 3 (some .int) :: ([.classLink RX4 99 RJx00060, .instantiable RJx00060 6, .initialized RJx00060, .fieldLink RX4 74 "LoopSorter$Item" "number" "I", .methodLink RX4 96 yX4_isTray, .instanceMethod yX4_isTray, .selects RX4 yX4_isTray yX4_isTray, .initialized RX4, .code yX4_isTray cX4_isTray 2 (some .boolean), .fieldLink RX4 13 "LoopSorter" "trayCount" "I", .methodLink RX4 106 yX4_itemOn, .instanceMethod yX4_itemOn, .selects RX4 yX4_itemOn yX4_itemOn, .code yX4_itemOn cX4_itemOn 2 (some (.object "LoopSorter$Item")), .fieldLink RX4 22 "LoopSorter" "carriedBy" "[LLoopSorter$Item;"] ++ wsJx000600 ++ wsX20 ++ wsX40)
def wsX4_full : List Cond := .code yX4_full cX4_full 4 (some .int) :: ([.fieldLink RX4 46 "LoopSorter" "chutes" "[LLoopSorter$Chute;", .fieldLink RX4 109 "LoopSorter$Chute" "lying" "I", .methodLink RX4 57 yX4_isChute, .static yX4_isChute, .initialized RX4, .code yX4_isChute cX4_isChute 1 (some .boolean), .methodLink RX4 112 yX0_holdShut, .instanceMethod yX0_holdShut, .selects RX0 yX0_holdShut yX0_holdShut, .initialized RX0, .code yX0_holdShut cX0_holdShut 1 none, .fieldLink RX0 17 "LoopSorter$Chute" "heldShut" "Z", .methodLink RX4 115 yX0_empty, .instanceMethod yX0_empty, .selects RX0 yX0_empty yX0_empty, .code yX0_empty cX0_empty 1 none, .fieldLink RX0 20 "LoopSorter$Chute" "lying" "I"] ++ wsX40 ++ wsX00)
def wsX4_itemNumbered : List Cond := .code yX4_itemNumbered cX4_itemNumbered 2 (some (.object "LoopSorter$Item")) :: ([.fieldLink RX4 60 "LoopSorter" "itemCount" "I", .fieldLink RX4 26 "LoopSorter" "items" "[LLoopSorter$Item;"] ++ wsX40)
def wsX4_missed : List Cond := .code yX4_missed cX4_missed 3 (some .int) :: ([.fieldLink RX4 121 "LoopSorter$Item" "place" "LLoopSorter$Place;", .fieldLink RX4 125 "LoopSorter$Place" "CARRIED" "LLoopSorter$Place;", .fieldLink RX4 130 "LoopSorter$Place" "MISSED" "LLoopSorter$Place;", .fieldLink RX4 133 "LoopSorter$Item" "ownTray" "I", .methodLink RX4 118 yX4_itemNumbered, .instanceMethod yX4_itemNumbered, .selects RX4 yX4_itemNumbered yX4_itemNumbered, .initialized RX4, .code yX4_itemNumbered cX4_itemNumbered 2 (some (.object "LoopSorter$Item")), .fieldLink RX4 60 "LoopSorter" "itemCount" "I", .fieldLink RX4 26 "LoopSorter" "items" "[LLoopSorter$Item;"] ++ wsX20 ++ wsX40)
def wsX4_found : List Cond := .code yX4_found cX4_found 4 (some .int) :: ([.fieldLink RX4 121 "LoopSorter$Item" "place" "LLoopSorter$Place;", .fieldLink RX4 130 "LoopSorter$Place" "MISSED" "LLoopSorter$Place;", .classLink RX4 99 RJx00060, .instantiable RJx00060 6, .initialized RJx00060, .fieldLink RX4 133 "LoopSorter$Item" "ownTray" "I", .fieldLink RX4 125 "LoopSorter$Place" "CARRIED" "LLoopSorter$Place;", .methodLink RX4 118 yX4_itemNumbered, .instanceMethod yX4_itemNumbered, .selects RX4 yX4_itemNumbered yX4_itemNumbered, .initialized RX4, .code yX4_itemNumbered cX4_itemNumbered 2 (some (.object "LoopSorter$Item")), .fieldLink RX4 60 "LoopSorter" "itemCount" "I", .fieldLink RX4 26 "LoopSorter" "items" "[LLoopSorter$Item;", .methodLink RX4 96 yX4_isTray, .instanceMethod yX4_isTray, .selects RX4 yX4_isTray yX4_isTray, .code yX4_isTray cX4_isTray 2 (some .boolean), .fieldLink RX4 13 "LoopSorter" "trayCount" "I"] ++ wsX20 ++ wsJx000600 ++ wsX40)
def wsX4_speed : List Cond := .code yX4_speed cX4_speed 3 (some .int) :: ([.fieldLink RX4 32 "LoopSorter" "movesPerStep" "I"] ++ wsX40)
def wsX4_share : List Cond := .code yX4_share cX4_share 2 (some .long) :: ([.fieldLink RX4 37 "LoopSorter" "inducts" "[LLoopSorter$Induct;", .fieldLink RX4 136 "LoopSorter$Induct" "putOnCount" "J", .constantLong RX4 140 (-11), .methodLink RX4 53 yX4_isInduct, .static yX4_isInduct, .initialized RX4, .code yX4_isInduct cX4_isInduct 1 (some .boolean)] ++ wsX40 ++ wsX10)
def wsX4_round : List Cond := .code yX4_round cX4_round 3 (some .int) :: ([.fieldLink RX4 93 "LoopSorter$Item" "rounds" "I", .methodLink RX4 118 yX4_itemNumbered, .instanceMethod yX4_itemNumbered, .selects RX4 yX4_itemNumbered yX4_itemNumbered, .initialized RX4, .code yX4_itemNumbered cX4_itemNumbered 2 (some (.object "LoopSorter$Item")), .fieldLink RX4 60 "LoopSorter" "itemCount" "I", .fieldLink RX4 26 "LoopSorter" "items" "[LLoopSorter$Item;"] ++ wsX20 ++ wsX40)
def wsX5_init : List Cond := .code yX5_init cX5_init 4 none :: ([.methodLink RX5 1 objectInit, .instanceMethod objectInit, .code objectInit ⟨#[0xb1]⟩ 1 none, .arrayClass .int, .fieldLink RX5 7 "LoopSorterModel" "number" "[I", .fieldLink RX5 13 "LoopSorterModel" "load" "[I", .fieldLink RX5 16 "LoopSorterModel" "speed" "I", .fieldLink RX5 20 "LoopSorterModel" "length" "[I", .fieldLink RX5 23 "LoopSorterModel" "chute" "[I", .fieldLink RX5 26 "LoopSorterModel" "where" "[I", .fieldLink RX5 29 "LoopSorterModel" "own" "[I", .fieldLink RX5 32 "LoopSorterModel" "rounds" "[I", .fieldLink RX5 35 "LoopSorterModel" "at" "[I", .arrayClass .long, .fieldLink RX5 38 "LoopSorterModel" "shares" "[J", .fieldLink RX5 42 "LoopSorterModel" "lying" "[I", .arrayClass .boolean, .fieldLink RX5 45 "LoopSorterModel" "shut" "[Z", .fieldLink RX5 49 "LoopSorterModel" "goneItem" "[I", .fieldLink RX5 52 "LoopSorterModel" "goneChute" "[I", .fieldLink RX5 55 "LoopSorterModel" "goneTime" "[I", .fieldLink RX5 58 "LoopSorterModel" "had" "[Z", .fieldLink RX5 61 "LoopSorterModel" "trays" "I", .fieldLink RX5 64 "LoopSorterModel" "most" "I"] ++ wsX50)
def wsX5_thrown : List Cond := .code yX5_thrown cX5_thrown 1 (some .int) :: ([.fieldLink RX5 67 "LoopSorterModel" "thrown" "I"] ++ wsX50)
def wsX5_in : List Cond := .code yX5_in cX5_in 3 (some .boolean) :: ([])
def wsX5_waiting : List Cond := .code yX5_waiting cX5_waiting 4 (some .int) :: ([.fieldLink RX5 70 "LoopSorterModel" "items" "I", .fieldLink RX5 26 "LoopSorterModel" "where" "[I", .fieldLink RX5 35 "LoopSorterModel" "at" "[I"] ++ wsX50)
def wsX5_induct : List Cond := .code yX5_induct cX5_induct 4 (some .int) :: ([.fieldLink RX5 67 "LoopSorterModel" "thrown" "I", .fieldLink RX5 70 "LoopSorterModel" "items" "I", .fieldLink RX5 35 "LoopSorterModel" "at" "[I", .fieldLink RX5 20 "LoopSorterModel" "length" "[I", .fieldLink RX5 23 "LoopSorterModel" "chute" "[I", .methodLink RX5 73 yX5_in, .static yX5_in, .initialized RX5, .code yX5_in cX5_in 3 (some .boolean), .methodLink RX5 77 yX5_waiting, .instanceMethod yX5_waiting, .selects RX5 yX5_waiting yX5_waiting, .code yX5_waiting cX5_waiting 4 (some .int), .fieldLink RX5 26 "LoopSorterModel" "where" "[I"] ++ wsX50)
def wsX5_move : List Cond := .code yX5_move cX5_move 4 none :: ([.fieldLink RX5 7 "LoopSorterModel" "number" "[I", .fieldLink RX5 61 "LoopSorterModel" "trays" "I", .fieldLink RX5 13 "LoopSorterModel" "load" "[I"] ++ wsX50)
def wsX5_before : List Cond := .code yX5_before cX5_before 2 (some .int) :: ([.fieldLink RX5 61 "LoopSorterModel" "trays" "I"] ++ wsX50)
def wsX5_hasRoom : List Cond := .code yX5_hasRoom cX5_hasRoom 2 (some .boolean) :: ([.fieldLink RX5 45 "LoopSorterModel" "shut" "[Z", .fieldLink RX5 42 "LoopSorterModel" "lying" "[I"] ++ wsX50)
def wsX5_goOut : List Cond := .code yX5_goOut cX5_goOut 4 none :: ([.fieldLink RX5 13 "LoopSorterModel" "load" "[I", .fieldLink RX5 20 "LoopSorterModel" "length" "[I", .fieldLink RX5 26 "LoopSorterModel" "where" "[I", .fieldLink RX5 42 "LoopSorterModel" "lying" "[I", .fieldLink RX5 49 "LoopSorterModel" "goneItem" "[I", .fieldLink RX5 84 "LoopSorterModel" "gone" "I", .fieldLink RX5 52 "LoopSorterModel" "goneChute" "[I", .fieldLink RX5 55 "LoopSorterModel" "goneTime" "[I", .fieldLink RX5 87 "LoopSorterModel" "time" "I", .methodLink RX5 81 yX5_before, .instanceMethod yX5_before, .selects RX5 yX5_before yX5_before, .initialized RX5, .code yX5_before cX5_before 2 (some .int), .fieldLink RX5 61 "LoopSorterModel" "trays" "I"] ++ wsX50)
def wsX5_passChute_r1 : List Cond := [Cond.fieldLink RX5 61 "LoopSorterModel" "trays" "I", Cond.fieldLink RX5 13 "LoopSorterModel" "load" "[I", Cond.fieldLink RX5 29 "LoopSorterModel" "own" "[I", Cond.fieldLink RX5 7 "LoopSorterModel" "number" "[I", Cond.fieldLink RX5 26 "LoopSorterModel" "where" "[I", Cond.fieldLink RX5 23 "LoopSorterModel" "chute" "[I", Cond.fieldLink RX5 32 "LoopSorterModel" "rounds" "[I", Cond.fieldLink RX5 64 "LoopSorterModel" "most" "I", Cond.methodLink RX5 90 yX5_hasRoom, Cond.instanceMethod yX5_hasRoom, Cond.selects RX5 yX5_hasRoom yX5_hasRoom, Cond.initialized RX5, Cond.code yX5_hasRoom cX5_hasRoom 2 (some .boolean), Cond.fieldLink RX5 45 "LoopSorterModel" "shut" "[Z", Cond.fieldLink RX5 42 "LoopSorterModel" "lying" "[I", Cond.methodLink RX5 94 yX5_goOut, Cond.instanceMethod yX5_goOut, Cond.selects RX5 yX5_goOut yX5_goOut, Cond.code yX5_goOut cX5_goOut 4 none, Cond.fieldLink RX5 20 "LoopSorterModel" "length" "[I", Cond.fieldLink RX5 49 "LoopSorterModel" "goneItem" "[I", Cond.fieldLink RX5 84 "LoopSorterModel" "gone" "I", Cond.fieldLink RX5 52 "LoopSorterModel" "goneChute" "[I", Cond.fieldLink RX5 55 "LoopSorterModel" "goneTime" "[I"]
def wsX5_passChute_r2 : List Cond := [Cond.fieldLink RX5 87 "LoopSorterModel" "time" "I", Cond.methodLink RX5 81 yX5_before, Cond.instanceMethod yX5_before, Cond.selects RX5 yX5_before yX5_before, Cond.code yX5_before cX5_before 2 (some .int)]
def wsX5_passChute : List Cond := .code yX5_passChute cX5_passChute 5 none :: ((wsX5_passChute_r1 ++ wsX5_passChute_r2) ++ wsX50)
def wsX5_firstWaiting : List Cond := .code yX5_firstWaiting cX5_firstWaiting 4 (some .int) :: ([.fieldLink RX5 70 "LoopSorterModel" "items" "I", .fieldLink RX5 26 "LoopSorterModel" "where" "[I", .fieldLink RX5 35 "LoopSorterModel" "at" "[I"] ++ wsX50)
def wsX5_putOn : List Cond := .code yX5_putOn cX5_putOn 4 none :: ([.fieldLink RX5 61 "LoopSorterModel" "trays" "I", .fieldLink RX5 13 "LoopSorterModel" "load" "[I", .fieldLink RX5 20 "LoopSorterModel" "length" "[I", .fieldLink RX5 29 "LoopSorterModel" "own" "[I", .fieldLink RX5 7 "LoopSorterModel" "number" "[I", .fieldLink RX5 26 "LoopSorterModel" "where" "[I", .fieldLink RX5 38 "LoopSorterModel" "shares" "[J", .methodLink RX5 98 yX5_firstWaiting, .instanceMethod yX5_firstWaiting, .selects RX5 yX5_firstWaiting yX5_firstWaiting, .initialized RX5, .code yX5_firstWaiting cX5_firstWaiting 4 (some .int), .fieldLink RX5 70 "LoopSorterModel" "items" "I", .fieldLink RX5 35 "LoopSorterModel" "at" "[I", .methodLink RX5 81 yX5_before, .instanceMethod yX5_before, .selects RX5 yX5_before yX5_before, .code yX5_before cX5_before 2 (some .int)] ++ wsX50)
def wsX5_turns : List Cond := .code yX5_turns cX5_turns 4 none :: ([.fieldLink RX5 58 "LoopSorterModel" "had" "[Z", .fieldLink RX5 38 "LoopSorterModel" "shares" "[J", .methodLink RX5 101 yX5_putOn, .instanceMethod yX5_putOn, .selects RX5 yX5_putOn yX5_putOn, .initialized RX5, .code yX5_putOn cX5_putOn 4 none, .fieldLink RX5 61 "LoopSorterModel" "trays" "I", .fieldLink RX5 13 "LoopSorterModel" "load" "[I", .fieldLink RX5 20 "LoopSorterModel" "length" "[I", .fieldLink RX5 29 "LoopSorterModel" "own" "[I", .fieldLink RX5 7 "LoopSorterModel" "number" "[I", .fieldLink RX5 26 "LoopSorterModel" "where" "[I", .methodLink RX5 98 yX5_firstWaiting, .instanceMethod yX5_firstWaiting, .selects RX5 yX5_firstWaiting yX5_firstWaiting, .code yX5_firstWaiting cX5_firstWaiting 4 (some .int), .fieldLink RX5 70 "LoopSorterModel" "items" "I", .fieldLink RX5 35 "LoopSorterModel" "at" "[I", .methodLink RX5 81 yX5_before, .instanceMethod yX5_before, .selects RX5 yX5_before yX5_before, .code yX5_before cX5_before 2 (some .int)] ++ wsX50)
def wsX5_step_r1 : List Cond := [Cond.fieldLink RX5 67 "LoopSorterModel" "thrown" "I", Cond.fieldLink RX5 84 "LoopSorterModel" "gone" "I", Cond.fieldLink RX5 16 "LoopSorterModel" "speed" "I", Cond.fieldLink RX5 87 "LoopSorterModel" "time" "I", Cond.methodLink RX5 73 yX5_in, Cond.static yX5_in, Cond.initialized RX5, Cond.code yX5_in cX5_in 3 (some .boolean), Cond.methodLink RX5 105 yX5_move, Cond.instanceMethod yX5_move, Cond.selects RX5 yX5_move yX5_move, Cond.code yX5_move cX5_move 4 none, Cond.fieldLink RX5 7 "LoopSorterModel" "number" "[I", Cond.fieldLink RX5 61 "LoopSorterModel" "trays" "I", Cond.fieldLink RX5 13 "LoopSorterModel" "load" "[I", Cond.methodLink RX5 108 yX5_passChute, Cond.instanceMethod yX5_passChute, Cond.selects RX5 yX5_passChute yX5_passChute, Cond.code yX5_passChute cX5_passChute 5 none, Cond.fieldLink RX5 29 "LoopSorterModel" "own" "[I", Cond.fieldLink RX5 26 "LoopSorterModel" "where" "[I", Cond.fieldLink RX5 23 "LoopSorterModel" "chute" "[I", Cond.fieldLink RX5 32 "LoopSorterModel" "rounds" "[I", Cond.fieldLink RX5 64 "LoopSorterModel" "most" "I"]
def wsX5_step_r2 : List Cond := [Cond.methodLink RX5 90 yX5_hasRoom, Cond.instanceMethod yX5_hasRoom, Cond.selects RX5 yX5_hasRoom yX5_hasRoom, Cond.code yX5_hasRoom cX5_hasRoom 2 (some .boolean), Cond.fieldLink RX5 45 "LoopSorterModel" "shut" "[Z", Cond.fieldLink RX5 42 "LoopSorterModel" "lying" "[I", Cond.methodLink RX5 94 yX5_goOut, Cond.instanceMethod yX5_goOut, Cond.selects RX5 yX5_goOut yX5_goOut, Cond.code yX5_goOut cX5_goOut 4 none, Cond.fieldLink RX5 20 "LoopSorterModel" "length" "[I", Cond.fieldLink RX5 49 "LoopSorterModel" "goneItem" "[I", Cond.fieldLink RX5 52 "LoopSorterModel" "goneChute" "[I", Cond.fieldLink RX5 55 "LoopSorterModel" "goneTime" "[I", Cond.methodLink RX5 81 yX5_before, Cond.instanceMethod yX5_before, Cond.selects RX5 yX5_before yX5_before, Cond.code yX5_before cX5_before 2 (some .int), Cond.methodLink RX5 111 yX5_turns, Cond.instanceMethod yX5_turns, Cond.selects RX5 yX5_turns yX5_turns, Cond.code yX5_turns cX5_turns 4 none, Cond.fieldLink RX5 58 "LoopSorterModel" "had" "[Z", Cond.fieldLink RX5 38 "LoopSorterModel" "shares" "[J"]
def wsX5_step_r3 : List Cond := [Cond.methodLink RX5 101 yX5_putOn, Cond.instanceMethod yX5_putOn, Cond.selects RX5 yX5_putOn yX5_putOn, Cond.code yX5_putOn cX5_putOn 4 none, Cond.methodLink RX5 98 yX5_firstWaiting, Cond.instanceMethod yX5_firstWaiting, Cond.selects RX5 yX5_firstWaiting yX5_firstWaiting, Cond.code yX5_firstWaiting cX5_firstWaiting 4 (some .int), Cond.fieldLink RX5 70 "LoopSorterModel" "items" "I", Cond.fieldLink RX5 35 "LoopSorterModel" "at" "[I"]
def wsX5_step : List Cond := .code yX5_step cX5_step 6 (some .int) :: ((wsX5_step_r1 ++ (wsX5_step_r2 ++ wsX5_step_r3)) ++ wsX50)
def wsX5_out : List Cond := .code yX5_out cX5_out 3 (some .int) :: ([.fieldLink RX5 67 "LoopSorterModel" "thrown" "I", .fieldLink RX5 84 "LoopSorterModel" "gone" "I", .fieldLink RX5 49 "LoopSorterModel" "goneItem" "[I", .fieldLink RX5 52 "LoopSorterModel" "goneChute" "[I", .fieldLink RX5 55 "LoopSorterModel" "goneTime" "[I", .fieldLink RX5 32 "LoopSorterModel" "rounds" "[I", .methodLink RX5 73 yX5_in, .static yX5_in, .initialized RX5, .code yX5_in cX5_in 3 (some .boolean)] ++ wsX50)
def wsX5_itemOn : List Cond := .code yX5_itemOn cX5_itemOn 4 (some .int) :: ([.fieldLink RX5 61 "LoopSorterModel" "trays" "I", .fieldLink RX5 7 "LoopSorterModel" "number" "[I", .fieldLink RX5 13 "LoopSorterModel" "load" "[I"] ++ wsX50)
def wsX5_tray : List Cond := .code yX5_tray cX5_tray 2 (some .int) :: ([.fieldLink RX5 61 "LoopSorterModel" "trays" "I", .fieldLink RX5 67 "LoopSorterModel" "thrown" "I", .methodLink RX5 73 yX5_in, .static yX5_in, .initialized RX5, .code yX5_in cX5_in 3 (some .boolean), .methodLink RX5 114 yX5_itemOn, .instanceMethod yX5_itemOn, .selects RX5 yX5_itemOn yX5_itemOn, .code yX5_itemOn cX5_itemOn 4 (some .int), .fieldLink RX5 7 "LoopSorterModel" "number" "[I", .fieldLink RX5 13 "LoopSorterModel" "load" "[I"] ++ wsX50)
def wsX5_full : List Cond := .code yX5_full cX5_full 4 (some .int) :: ([.fieldLink RX5 67 "LoopSorterModel" "thrown" "I", .fieldLink RX5 42 "LoopSorterModel" "lying" "[I", .fieldLink RX5 45 "LoopSorterModel" "shut" "[Z", .methodLink RX5 73 yX5_in, .static yX5_in, .initialized RX5, .code yX5_in cX5_in 3 (some .boolean)] ++ wsX50)
def wsX5_isItem : List Cond := .code yX5_isItem cX5_isItem 2 (some .boolean) :: ([.fieldLink RX5 70 "LoopSorterModel" "items" "I", .methodLink RX5 73 yX5_in, .static yX5_in, .initialized RX5, .code yX5_in cX5_in 3 (some .boolean)] ++ wsX50)
def wsX5_missed : List Cond := .code yX5_missed cX5_missed 2 (some .int) :: ([.fieldLink RX5 67 "LoopSorterModel" "thrown" "I", .fieldLink RX5 26 "LoopSorterModel" "where" "[I", .fieldLink RX5 29 "LoopSorterModel" "own" "[I", .methodLink RX5 117 yX5_isItem, .instanceMethod yX5_isItem, .selects RX5 yX5_isItem yX5_isItem, .initialized RX5, .code yX5_isItem cX5_isItem 2 (some .boolean), .fieldLink RX5 70 "LoopSorterModel" "items" "I", .methodLink RX5 73 yX5_in, .static yX5_in, .code yX5_in cX5_in 3 (some .boolean)] ++ wsX50)
def wsX5_found : List Cond := .code yX5_found cX5_found 3 (some .int) :: ([.fieldLink RX5 67 "LoopSorterModel" "thrown" "I", .fieldLink RX5 26 "LoopSorterModel" "where" "[I", .fieldLink RX5 61 "LoopSorterModel" "trays" "I", .fieldLink RX5 29 "LoopSorterModel" "own" "[I", .methodLink RX5 117 yX5_isItem, .instanceMethod yX5_isItem, .selects RX5 yX5_isItem yX5_isItem, .initialized RX5, .code yX5_isItem cX5_isItem 2 (some .boolean), .fieldLink RX5 70 "LoopSorterModel" "items" "I", .methodLink RX5 73 yX5_in, .static yX5_in, .code yX5_in cX5_in 3 (some .boolean)] ++ wsX50)
def wsX5_speed : List Cond := .code yX5_speed cX5_speed 3 (some .int) :: ([.fieldLink RX5 67 "LoopSorterModel" "thrown" "I", .fieldLink RX5 16 "LoopSorterModel" "speed" "I", .methodLink RX5 73 yX5_in, .static yX5_in, .initialized RX5, .code yX5_in cX5_in 3 (some .boolean)] ++ wsX50)
def wsX5_share : List Cond := .code yX5_share cX5_share 2 (some .long) :: ([.fieldLink RX5 67 "LoopSorterModel" "thrown" "I", .fieldLink RX5 38 "LoopSorterModel" "shares" "[J", .constantLong RX5 120 (-11), .methodLink RX5 73 yX5_in, .static yX5_in, .initialized RX5, .code yX5_in cX5_in 3 (some .boolean)] ++ wsX50)
def wsX5_round : List Cond := .code yX5_round cX5_round 2 (some .int) :: ([.fieldLink RX5 67 "LoopSorterModel" "thrown" "I", .fieldLink RX5 32 "LoopSorterModel" "rounds" "[I", .methodLink RX5 117 yX5_isItem, .instanceMethod yX5_isItem, .selects RX5 yX5_isItem yX5_isItem, .initialized RX5, .code yX5_isItem cX5_isItem 2 (some .boolean), .fieldLink RX5 70 "LoopSorterModel" "items" "I", .methodLink RX5 73 yX5_in, .static yX5_in, .code yX5_in cX5_in 3 (some .boolean)] ++ wsX50)
def wsJx00060_init_a7421 : List Cond := .code yJx00060_init_a7421 cJx00060_init_a7421 2 none :: ([])
def wsJ9_max_7cf53 : List Cond := .code yJ9_max_7cf53 cJ9_max_7cf53 2 (some .int) :: ([])
def wsJ9_min_7cf53 : List Cond := .code yJ9_min_7cf53 cJ9_min_7cf53 2 (some .int) :: ([])
def wsL_cell : List Cond := .code yL_cell cL_cell 2 (some .int) :: ([])
def wsL_tray : List Cond := .codeWith yL_tray cL_tray 4 (some .int) [(0, 9, 12, 13)] :: ([.methodLink RL 7 yX4_tray, .instanceMethod yX4_tray, .selects RX4 yX4_tray yX4_tray, .initialized RX4, .code yX4_tray cX4_tray 3 (some .int), .classLink RX4 99 RJx00060, .instantiable RJx00060 6, .initialized RJx00060, .fieldLink RX4 74 "LoopSorter$Item" "number" "I", .methodLink RX4 96 yX4_isTray, .instanceMethod yX4_isTray, .selects RX4 yX4_isTray yX4_isTray, .code yX4_isTray cX4_isTray 2 (some .boolean), .fieldLink RX4 13 "LoopSorter" "trayCount" "I", .methodLink RX4 106 yX4_itemOn, .instanceMethod yX4_itemOn, .selects RX4 yX4_itemOn yX4_itemOn, .code yX4_itemOn cX4_itemOn 2 (some (.object "LoopSorter$Item")), .fieldLink RX4 22 "LoopSorter" "carriedBy" "[LLoopSorter$Item;"] ++ wsJx000600 ++ wsX20 ++ wsX40)
def wsL_found : List Cond := .codeWith yL_found cL_found 5 (some .int) [(0, 10, 13, 13)] :: ([.methodLink RL 15 yX4_found, .instanceMethod yX4_found, .selects RX4 yX4_found yX4_found, .initialized RX4, .code yX4_found cX4_found 4 (some .int), .fieldLink RX4 121 "LoopSorter$Item" "place" "LLoopSorter$Place;", .fieldLink RX4 130 "LoopSorter$Place" "MISSED" "LLoopSorter$Place;", .classLink RX4 99 RJx00060, .instantiable RJx00060 6, .initialized RJx00060, .fieldLink RX4 133 "LoopSorter$Item" "ownTray" "I", .fieldLink RX4 125 "LoopSorter$Place" "CARRIED" "LLoopSorter$Place;", .methodLink RX4 118 yX4_itemNumbered, .instanceMethod yX4_itemNumbered, .selects RX4 yX4_itemNumbered yX4_itemNumbered, .code yX4_itemNumbered cX4_itemNumbered 2 (some (.object "LoopSorter$Item")), .fieldLink RX4 60 "LoopSorter" "itemCount" "I", .fieldLink RX4 26 "LoopSorter" "items" "[LLoopSorter$Item;", .methodLink RX4 96 yX4_isTray, .instanceMethod yX4_isTray, .selects RX4 yX4_isTray yX4_isTray, .code yX4_isTray cX4_isTray 2 (some .boolean), .fieldLink RX4 13 "LoopSorter" "trayCount" "I"] ++ wsX20 ++ wsJx000600 ++ wsX40)
def wsL_law_r1 : List Cond := [Cond.classLink RL 8 RX4, Cond.instantiable RX4 13, Cond.initialized RX4, Cond.classLink RL 28 RX5, Cond.instantiable RX5 22, Cond.initialized RX5, Cond.arrayClass .long, Cond.methodLink RL 19 yL_cell, Cond.static yL_cell, Cond.initialized RL, Cond.code yL_cell cL_cell 2 (some .int), Cond.methodLink RL 25 yX4_init, Cond.instanceMethod yX4_init, Cond.code yX4_init cX4_init 4 none, Cond.methodLink RX4 1 objectInit, Cond.instanceMethod objectInit, Cond.code objectInit ⟨#[0xb1]⟩ 1 none, Cond.fieldLink RX4 13 "LoopSorter" "trayCount" "I", Cond.fieldLink RX4 17 "LoopSorter" "roundsAllowed" "I", Cond.classLink RX4 20 RX2, Cond.fieldLink RX4 22 "LoopSorter" "carriedBy" "[LLoopSorter$Item;", Cond.fieldLink RX4 26 "LoopSorter" "items" "[LLoopSorter$Item;", Cond.fieldLink RX4 29 "LoopSorter" "gone" "[LLoopSorter$Item;", Cond.fieldLink RX4 32 "LoopSorter" "movesPerStep" "I"]
def wsL_law_r2 : List Cond := [Cond.classLink RX4 35 RX1, Cond.fieldLink RX4 37 "LoopSorter" "inducts" "[LLoopSorter$Induct;", Cond.instantiable RX1 5, Cond.initialized RX1, Cond.classLink RX4 44 RX0, Cond.fieldLink RX4 46 "LoopSorter" "chutes" "[LLoopSorter$Chute;", Cond.instantiable RX0 4, Cond.initialized RX0, Cond.methodLink RX4 9 yX4_bringWithin, Cond.static yX4_bringWithin, Cond.code yX4_bringWithin cX4_bringWithin 2 (some .int), Cond.methodLink RX4 142 Lib.Math.min.name, Cond.static Lib.Math.min.name, Cond.initialized "java/lang/Math", Cond.code Lib.Math.min.name Lib.Math.min.code 2 (some .int), Cond.methodLink RX4 147 Lib.Math.max.name, Cond.static Lib.Math.max.name, Cond.code Lib.Math.max.name Lib.Math.max.code 2 (some .int), Cond.methodLink RX4 41 yX1_init, Cond.instanceMethod yX1_init, Cond.code yX1_init cX1_init 2 none, Cond.methodLink RX1 1 objectInit, Cond.fieldLink RX1 7 "LoopSorter$Induct" "position" "I", Cond.classLink RX1 13 RX2]
def wsL_law_r3 : List Cond := [Cond.fieldLink RX1 15 "LoopSorter$Induct" "row" "[LLoopSorter$Item;", Cond.methodLink RX4 50 yX0_init, Cond.instanceMethod yX0_init, Cond.code yX0_init cX0_init 3 none, Cond.methodLink RX0 1 objectInit, Cond.fieldLink RX0 7 "LoopSorter$Chute" "position" "I", Cond.fieldLink RX0 13 "LoopSorter$Chute" "isOverflow" "Z", Cond.methodLink RL 30 yX5_init, Cond.instanceMethod yX5_init, Cond.code yX5_init cX5_init 4 none, Cond.methodLink RX5 1 objectInit, Cond.arrayClass .int, Cond.fieldLink RX5 7 "LoopSorterModel" "number" "[I", Cond.fieldLink RX5 13 "LoopSorterModel" "load" "[I", Cond.fieldLink RX5 16 "LoopSorterModel" "speed" "I", Cond.fieldLink RX5 20 "LoopSorterModel" "length" "[I", Cond.fieldLink RX5 23 "LoopSorterModel" "chute" "[I", Cond.fieldLink RX5 26 "LoopSorterModel" "where" "[I", Cond.fieldLink RX5 29 "LoopSorterModel" "own" "[I", Cond.fieldLink RX5 32 "LoopSorterModel" "rounds" "[I", Cond.fieldLink RX5 35 "LoopSorterModel" "at" "[I", Cond.fieldLink RX5 38 "LoopSorterModel" "shares" "[J", Cond.fieldLink RX5 42 "LoopSorterModel" "lying" "[I", Cond.arrayClass .boolean]
def wsL_law_r4 : List Cond := [Cond.fieldLink RX5 45 "LoopSorterModel" "shut" "[Z", Cond.fieldLink RX5 49 "LoopSorterModel" "goneItem" "[I", Cond.fieldLink RX5 52 "LoopSorterModel" "goneChute" "[I", Cond.fieldLink RX5 55 "LoopSorterModel" "goneTime" "[I", Cond.fieldLink RX5 58 "LoopSorterModel" "had" "[Z", Cond.fieldLink RX5 61 "LoopSorterModel" "trays" "I", Cond.fieldLink RX5 64 "LoopSorterModel" "most" "I", Cond.methodLink RL 31 yX4_induct, Cond.instanceMethod yX4_induct, Cond.selects RX4 yX4_induct yX4_induct, Cond.code yX4_induct cX4_induct 5 (some .int), Cond.fieldLink RX4 60 "LoopSorter" "itemCount" "I", Cond.instantiable RX2 8, Cond.initialized RX2, Cond.fieldLink RX4 74 "LoopSorter$Item" "number" "I", Cond.methodLink RX4 53 yX4_isInduct, Cond.static yX4_isInduct, Cond.code yX4_isInduct cX4_isInduct 1 (some .boolean), Cond.methodLink RX4 57 yX4_isChute, Cond.static yX4_isChute, Cond.code yX4_isChute cX4_isChute 1 (some .boolean), Cond.methodLink RX4 63 yX1_isRowFull, Cond.instanceMethod yX1_isRowFull, Cond.selects RX1 yX1_isRowFull yX1_isRowFull]
def wsL_law_r5 : List Cond := [Cond.code yX1_isRowFull cX1_isRowFull 1 (some .boolean), Cond.fieldLink RX1 19 "LoopSorter$Induct" "waiting" "I", Cond.methodLink RX4 67 yX2_init, Cond.instanceMethod yX2_init, Cond.code yX2_init cX2_init 4 none, Cond.methodLink RX2 1 objectInit, Cond.fieldLink RX2 7 "LoopSorter$Item" "number" "I", Cond.fieldLink RX2 13 "LoopSorter$Item" "length" "I", Cond.fieldLink RX2 16 "LoopSorter$Item" "chute" "I", Cond.fieldLink RX2 19 "LoopSorter$Place" "WAITING" "LLoopSorter$Place;", Cond.fieldLink RX2 25 "LoopSorter$Item" "place" "LLoopSorter$Place;", Cond.methodLink RX4 70 yX1_addLast, Cond.instanceMethod yX1_addLast, Cond.selects RX1 yX1_addLast yX1_addLast, Cond.code yX1_addLast cX1_addLast 2 none, Cond.methodLink RX1 22 yX1_isRowFull, Cond.methodLink RL 35 yX5_induct, Cond.instanceMethod yX5_induct, Cond.selects RX5 yX5_induct yX5_induct, Cond.code yX5_induct cX5_induct 4 (some .int), Cond.fieldLink RX5 67 "LoopSorterModel" "thrown" "I", Cond.fieldLink RX5 70 "LoopSorterModel" "items" "I", Cond.methodLink RX5 73 yX5_in, Cond.static yX5_in]
def wsL_law_r6 : List Cond := [Cond.code yX5_in cX5_in 3 (some .boolean), Cond.methodLink RX5 77 yX5_waiting, Cond.instanceMethod yX5_waiting, Cond.selects RX5 yX5_waiting yX5_waiting, Cond.code yX5_waiting cX5_waiting 4 (some .int), Cond.methodLink RL 36 yX4_step, Cond.instanceMethod yX4_step, Cond.selects RX4 yX4_step yX4_step, Cond.code yX4_step cX4_step 4 (some .int), Cond.fieldLink RX4 77 "LoopSorter" "goneCount" "I", Cond.methodLink RX4 80 yX4_runOneStep, Cond.instanceMethod yX4_runOneStep, Cond.selects RX4 yX4_runOneStep yX4_runOneStep, Cond.code yX4_runOneStep cX4_runOneStep 2 none, Cond.fieldLink RX4 150 "LoopSorter" "shift" "I", Cond.fieldLink RX4 153 "LoopSorter" "carriedCount" "I", Cond.fieldLink RX4 159 "LoopSorter" "time" "I", Cond.methodLink RX4 156 yX4_passChutes, Cond.instanceMethod yX4_passChutes, Cond.selects RX4 yX4_passChutes yX4_passChutes, Cond.code yX4_passChutes cX4_passChutes 4 none, Cond.fieldLink RX4 165 "LoopSorter$Chute" "position" "I", Cond.fieldLink RX4 133 "LoopSorter$Item" "ownTray" "I", Cond.fieldLink RX4 121 "LoopSorter$Item" "place" "LLoopSorter$Place;"]
def wsL_law_r7 : List Cond := [Cond.fieldLink RX4 125 "LoopSorter$Place" "CARRIED" "LLoopSorter$Place;", Cond.methodLink RX4 168 yX4_trayAt, Cond.instanceMethod yX4_trayAt, Cond.selects RX4 yX4_trayAt yX4_trayAt, Cond.code yX4_trayAt cX4_trayAt 3 (some .int), Cond.methodLink RX4 106 yX4_itemOn, Cond.instanceMethod yX4_itemOn, Cond.selects RX4 yX4_itemOn yX4_itemOn, Cond.code yX4_itemOn cX4_itemOn 2 (some (.object "LoopSorter$Item")), Cond.methodLink RX4 96 yX4_isTray, Cond.instanceMethod yX4_isTray, Cond.selects RX4 yX4_isTray yX4_isTray, Cond.code yX4_isTray cX4_isTray 2 (some .boolean), Cond.methodLink RX4 172 yX4_passChute, Cond.instanceMethod yX4_passChute, Cond.selects RX4 yX4_passChute yX4_passChute, Cond.code yX4_passChute cX4_passChute 5 none, Cond.fieldLink RX4 176 "LoopSorter$Item" "chute" "I", Cond.fieldLink RX4 93 "LoopSorter$Item" "rounds" "I", Cond.methodLink RX4 179 yX0_hasRoom, Cond.instanceMethod yX0_hasRoom, Cond.selects RX0 yX0_hasRoom yX0_hasRoom, Cond.code yX0_hasRoom cX0_hasRoom 1 (some .boolean), Cond.fieldLink RX0 17 "LoopSorter$Chute" "heldShut" "Z"]
def wsL_law_r8 : List Cond := [Cond.fieldLink RX0 20 "LoopSorter$Chute" "lying" "I", Cond.methodLink RX4 182 yX4_letOut, Cond.instanceMethod yX4_letOut, Cond.selects RX4 yX4_letOut yX4_letOut, Cond.code yX4_letOut cX4_letOut 3 none, Cond.fieldLink RX4 109 "LoopSorter$Chute" "lying" "I", Cond.fieldLink RX4 189 "LoopSorter$Place" "OUT" "LLoopSorter$Place;", Cond.fieldLink RX4 87 "LoopSorter$Item" "outChute" "I", Cond.fieldLink RX4 90 "LoopSorter$Item" "outTime" "I", Cond.methodLink RX4 185 yX4_setTraysOf, Cond.instanceMethod yX4_setTraysOf, Cond.selects RX4 yX4_setTraysOf yX4_setTraysOf, Cond.code yX4_setTraysOf cX4_setTraysOf 3 none, Cond.fieldLink RX4 216 "LoopSorter$Item" "length" "I", Cond.methodLink RX4 222 yX4_setTray, Cond.instanceMethod yX4_setTray, Cond.selects RX4 yX4_setTray yX4_setTray, Cond.code yX4_setTray cX4_setTray 3 none, Cond.methodLink RX4 219 yX4_trayBehind, Cond.instanceMethod yX4_trayBehind, Cond.selects RX4 yX4_trayBehind yX4_trayBehind, Cond.code yX4_trayBehind cX4_trayBehind 2 (some .int), Cond.methodLink RX4 162 yX4_takeTurns, Cond.instanceMethod yX4_takeTurns]
def wsL_law_r9 : List Cond := [Cond.selects RX4 yX4_takeTurns yX4_takeTurns, Cond.code yX4_takeTurns cX4_takeTurns 3 none, Cond.fieldLink RX4 192 "LoopSorter$Induct" "hadTurn" "Z", Cond.methodLink RX4 196 yX4_nextInTurn, Cond.instanceMethod yX4_nextInTurn, Cond.selects RX4 yX4_nextInTurn yX4_nextInTurn, Cond.code yX4_nextInTurn cX4_nextInTurn 4 (some (.object "LoopSorter$Induct")), Cond.fieldLink RX4 136 "LoopSorter$Induct" "putOnCount" "J", Cond.methodLink RX4 200 yX4_putFirstOn, Cond.instanceMethod yX4_putFirstOn, Cond.selects RX4 yX4_putFirstOn yX4_putFirstOn, Cond.code yX4_putFirstOn cX4_putFirstOn 4 none, Cond.fieldLink RX4 208 "LoopSorter$Induct" "position" "I", Cond.methodLink RX4 204 yX1_first, Cond.instanceMethod yX1_first, Cond.selects RX1 yX1_first yX1_first, Cond.code yX1_first cX1_first 1 (some (.object "LoopSorter$Item")), Cond.methodLink RX4 209 yX4_isFreeFor, Cond.instanceMethod yX4_isFreeFor, Cond.selects RX4 yX4_isFreeFor yX4_isFreeFor, Cond.code yX4_isFreeFor cX4_isFreeFor 3 (some .boolean), Cond.methodLink RX4 213 yX1_removeFirst, Cond.instanceMethod yX1_removeFirst, Cond.selects RX1 yX1_removeFirst yX1_removeFirst]
def wsL_law_r10 : List Cond := [Cond.code yX1_removeFirst cX1_removeFirst 2 none, Cond.methodLink RL 39 yX5_step, Cond.instanceMethod yX5_step, Cond.selects RX5 yX5_step yX5_step, Cond.code yX5_step cX5_step 6 (some .int), Cond.fieldLink RX5 84 "LoopSorterModel" "gone" "I", Cond.fieldLink RX5 87 "LoopSorterModel" "time" "I", Cond.methodLink RX5 105 yX5_move, Cond.instanceMethod yX5_move, Cond.selects RX5 yX5_move yX5_move, Cond.code yX5_move cX5_move 4 none, Cond.methodLink RX5 108 yX5_passChute, Cond.instanceMethod yX5_passChute, Cond.selects RX5 yX5_passChute yX5_passChute, Cond.code yX5_passChute cX5_passChute 5 none, Cond.methodLink RX5 90 yX5_hasRoom, Cond.instanceMethod yX5_hasRoom, Cond.selects RX5 yX5_hasRoom yX5_hasRoom, Cond.code yX5_hasRoom cX5_hasRoom 2 (some .boolean), Cond.methodLink RX5 94 yX5_goOut, Cond.instanceMethod yX5_goOut, Cond.selects RX5 yX5_goOut yX5_goOut, Cond.code yX5_goOut cX5_goOut 4 none, Cond.methodLink RX5 81 yX5_before]
def wsL_law_r11 : List Cond := [Cond.instanceMethod yX5_before, Cond.selects RX5 yX5_before yX5_before, Cond.code yX5_before cX5_before 2 (some .int), Cond.methodLink RX5 111 yX5_turns, Cond.instanceMethod yX5_turns, Cond.selects RX5 yX5_turns yX5_turns, Cond.code yX5_turns cX5_turns 4 none, Cond.methodLink RX5 101 yX5_putOn, Cond.instanceMethod yX5_putOn, Cond.selects RX5 yX5_putOn yX5_putOn, Cond.code yX5_putOn cX5_putOn 4 none, Cond.methodLink RX5 98 yX5_firstWaiting, Cond.instanceMethod yX5_firstWaiting, Cond.selects RX5 yX5_firstWaiting yX5_firstWaiting, Cond.code yX5_firstWaiting cX5_firstWaiting 4 (some .int), Cond.methodLink RL 40 yX4_out, Cond.instanceMethod yX4_out, Cond.selects RX4 yX4_out yX4_out, Cond.code yX4_out cX4_out 4 (some .int), Cond.methodLink RX4 83 yX4_itemGoneAs, Cond.instanceMethod yX4_itemGoneAs, Cond.selects RX4 yX4_itemGoneAs yX4_itemGoneAs, Cond.code yX4_itemGoneAs cX4_itemGoneAs 2 (some (.object "LoopSorter$Item")), Cond.methodLink RL 43 yX5_out]
def wsL_law_r12 : List Cond := [Cond.instanceMethod yX5_out, Cond.selects RX5 yX5_out yX5_out, Cond.code yX5_out cX5_out 3 (some .int), Cond.methodLink RL 44 yL_tray, Cond.static yL_tray, Cond.codeWith yL_tray cL_tray 4 (some .int) [(0, 9, 12, 13)], Cond.methodLink RL 7 yX4_tray, Cond.instanceMethod yX4_tray, Cond.selects RX4 yX4_tray yX4_tray, Cond.code yX4_tray cX4_tray 3 (some .int), Cond.classLink RX4 99 RJx00060, Cond.instantiable RJx00060 6, Cond.initialized RJx00060, Cond.methodLink RL 47 yX5_tray, Cond.instanceMethod yX5_tray, Cond.selects RX5 yX5_tray yX5_tray, Cond.code yX5_tray cX5_tray 2 (some .int), Cond.methodLink RX5 114 yX5_itemOn, Cond.instanceMethod yX5_itemOn, Cond.selects RX5 yX5_itemOn yX5_itemOn, Cond.code yX5_itemOn cX5_itemOn 4 (some .int), Cond.methodLink RL 48 yX5_thrown, Cond.instanceMethod yX5_thrown, Cond.selects RX5 yX5_thrown yX5_thrown]
def wsL_law_r13 : List Cond := [Cond.code yX5_thrown cX5_thrown 1 (some .int), Cond.methodLink RL 52 yX4_full, Cond.instanceMethod yX4_full, Cond.selects RX4 yX4_full yX4_full, Cond.code yX4_full cX4_full 4 (some .int), Cond.methodLink RX4 112 yX0_holdShut, Cond.instanceMethod yX0_holdShut, Cond.selects RX0 yX0_holdShut yX0_holdShut, Cond.code yX0_holdShut cX0_holdShut 1 none, Cond.methodLink RX4 115 yX0_empty, Cond.instanceMethod yX0_empty, Cond.selects RX0 yX0_empty yX0_empty, Cond.code yX0_empty cX0_empty 1 none, Cond.methodLink RL 56 yX5_full, Cond.instanceMethod yX5_full, Cond.selects RX5 yX5_full yX5_full, Cond.code yX5_full cX5_full 4 (some .int), Cond.methodLink RL 57 yX4_missed, Cond.instanceMethod yX4_missed, Cond.selects RX4 yX4_missed yX4_missed, Cond.code yX4_missed cX4_missed 3 (some .int), Cond.fieldLink RX4 130 "LoopSorter$Place" "MISSED" "LLoopSorter$Place;", Cond.methodLink RX4 118 yX4_itemNumbered, Cond.instanceMethod yX4_itemNumbered]
def wsL_law_r14 : List Cond := [Cond.selects RX4 yX4_itemNumbered yX4_itemNumbered, Cond.code yX4_itemNumbered cX4_itemNumbered 2 (some (.object "LoopSorter$Item")), Cond.methodLink RL 60 yX5_missed, Cond.instanceMethod yX5_missed, Cond.selects RX5 yX5_missed yX5_missed, Cond.code yX5_missed cX5_missed 2 (some .int), Cond.methodLink RX5 117 yX5_isItem, Cond.instanceMethod yX5_isItem, Cond.selects RX5 yX5_isItem yX5_isItem, Cond.code yX5_isItem cX5_isItem 2 (some .boolean), Cond.methodLink RL 61 yL_found, Cond.static yL_found, Cond.codeWith yL_found cL_found 5 (some .int) [(0, 10, 13, 13)], Cond.methodLink RL 15 yX4_found, Cond.instanceMethod yX4_found, Cond.selects RX4 yX4_found yX4_found, Cond.code yX4_found cX4_found 4 (some .int), Cond.methodLink RL 64 yX5_found, Cond.instanceMethod yX5_found, Cond.selects RX5 yX5_found yX5_found, Cond.code yX5_found cX5_found 3 (some .int), Cond.methodLink RL 65 yX4_speed, Cond.instanceMethod yX4_speed, Cond.selects RX4 yX4_speed yX4_speed]
def wsL_law_r15 : List Cond := [Cond.code yX4_speed cX4_speed 3 (some .int), Cond.methodLink RL 68 yX5_speed, Cond.instanceMethod yX5_speed, Cond.selects RX5 yX5_speed yX5_speed, Cond.code yX5_speed cX5_speed 3 (some .int), Cond.methodLink RL 69 yX4_share, Cond.instanceMethod yX4_share, Cond.selects RX4 yX4_share yX4_share, Cond.code yX4_share cX4_share 2 (some .long), Cond.constantLong RX4 140 (-11), Cond.methodLink RL 73 yX5_share, Cond.instanceMethod yX5_share, Cond.selects RX5 yX5_share yX5_share, Cond.code yX5_share cX5_share 2 (some .long), Cond.constantLong RX5 120 (-11), Cond.methodLink RL 74 yX4_round, Cond.instanceMethod yX4_round, Cond.selects RX4 yX4_round yX4_round, Cond.code yX4_round cX4_round 3 (some .int), Cond.methodLink RL 77 yX5_round, Cond.instanceMethod yX5_round, Cond.selects RX5 yX5_round yX5_round, Cond.code yX5_round cX5_round 2 (some .int)]
def wsL_law : List Cond := (wsL_law_r1 ++ (wsL_law_r2 ++ (wsL_law_r3 ++ (wsL_law_r4 ++ (wsL_law_r5 ++ (wsL_law_r6 ++ (wsL_law_r7 ++ (wsL_law_r8 ++ (wsL_law_r9 ++ (wsL_law_r10 ++ (wsL_law_r11 ++ (wsL_law_r12 ++ (wsL_law_r13 ++ (wsL_law_r14 ++ wsL_law_r15)))))))))))))) ++ wsX40 ++ wsX50 ++ wsX10 ++ wsX00 ++ wsX20 ++ wsJx000600 ++ ([] : List Cond)
set_option maxRecDepth 20000 in
theorem wsL_law_in : ∀ w ∈ wsL_law, w ∈ lw_tbl := fun w h => (goodIn_p wsL_law [324, 46, 49, 52, 55, 58, 66, 91, 415, 151, 154, 157, 161, 165, 201, 494, 497, 501, 206, 210, 214, 218, 222, 226, 232, 236, 240, 244, 248, 252, 258, 262, 266, 270, 274, 278, 505, 509, 513, 517, 521, 525, 529, 533, 537, 282, 286, 541, 332, 545, 549, 490, 290, 294, 298, 553, 302, 306, 557, 561, 410, 565, 312, 569, 316, 573, 321, 578] (by decide +kernel) (by decide +kernel) w h).1
theorem inlX0 : ∀ w ∈ wsX00, w ∈ wsL_law := fun _ h => List.mem_append_left _ (List.mem_append_left _ (List.mem_append_left _ (List.mem_append_right _ h)))
theorem inX0 : ∀ w ∈ wsX00, w ∈ lw_tbl := fun w h => wsL_law_in w (inlX0 w h)
theorem inlX1 : ∀ w ∈ wsX10, w ∈ wsL_law := fun _ h => List.mem_append_left _ (List.mem_append_left _ (List.mem_append_left _ (List.mem_append_left _ (List.mem_append_right _ h))))
theorem inX1 : ∀ w ∈ wsX10, w ∈ lw_tbl := fun w h => wsL_law_in w (inlX1 w h)
theorem inlX2 : ∀ w ∈ wsX20, w ∈ wsL_law := fun _ h => List.mem_append_left _ (List.mem_append_left _ (List.mem_append_right _ h))
theorem inX2 : ∀ w ∈ wsX20, w ∈ lw_tbl := fun w h => wsL_law_in w (inlX2 w h)
theorem inX3 : ∀ w ∈ wsX30, w ∈ lw_tbl := by decide +kernel
theorem inlX4 : ∀ w ∈ wsX40, w ∈ wsL_law := fun _ h => List.mem_append_left _ (List.mem_append_left _ (List.mem_append_left _ (List.mem_append_left _ (List.mem_append_left _ (List.mem_append_left _ (List.mem_append_right _ h))))))
theorem inX4 : ∀ w ∈ wsX40, w ∈ lw_tbl := fun w h => wsL_law_in w (inlX4 w h)
theorem inlX5 : ∀ w ∈ wsX50, w ∈ wsL_law := fun _ h => List.mem_append_left _ (List.mem_append_left _ (List.mem_append_left _ (List.mem_append_left _ (List.mem_append_left _ (List.mem_append_right _ h)))))
theorem inX5 : ∀ w ∈ wsX50, w ∈ lw_tbl := fun w h => wsL_law_in w (inlX5 w h)
theorem inlJx00060 : ∀ w ∈ wsJx000600, w ∈ wsL_law := fun _ h => List.mem_append_left _ (List.mem_append_right _ h)
theorem inJx00060 : ∀ w ∈ wsJx000600, w ∈ lw_tbl := fun w h => wsL_law_in w (inlJx00060 w h)
theorem inJx29ce0 : ∀ w ∈ wsJx29ce00, w ∈ lw_tbl := by decide +kernel
theorem inJ9 : ∀ w ∈ wsJ90, w ∈ lw_tbl := by decide +kernel
theorem inJ0 : ∀ w ∈ wsJ00, w ∈ lw_tbl := by decide +kernel
theorem dX0_init_0 : decode cX0_init 0 = .ok (.aload_n 0, 1) := by decide +kernel
theorem dX0_init_1 : decode cX0_init 1 = .ok (.invokespecial 1, 3) := by decide +kernel
theorem dX0_init_4 : decode cX0_init 4 = .ok (.aload_n 0, 1) := by decide +kernel
theorem dX0_init_5 : decode cX0_init 5 = .ok (.iload_n 1, 1) := by decide +kernel
theorem dX0_init_6 : decode cX0_init 6 = .ok (.putfield 7, 3) := by decide +kernel
theorem dX0_init_9 : decode cX0_init 9 = .ok (.aload_n 0, 1) := by decide +kernel
theorem dX0_init_10 : decode cX0_init 10 = .ok (.iload_n 2, 1) := by decide +kernel
theorem dX0_init_11 : decode cX0_init 11 = .ok (.putfield 13, 3) := by decide +kernel
theorem dX0_init_14 : decode cX0_init 14 = .ok (.return_, 1) := by decide +kernel
theorem dX0_hasRoom_0 : decode cX0_hasRoom 0 = .ok (.aload_n 0, 1) := by decide +kernel
theorem dX0_hasRoom_1 : decode cX0_hasRoom 1 = .ok (.getfield 13, 3) := by decide +kernel
theorem dX0_hasRoom_4 : decode cX0_hasRoom 4 = .ok (.ifCond .ne 19, 3) := by decide +kernel
theorem dX0_hasRoom_7 : decode cX0_hasRoom 7 = .ok (.aload_n 0, 1) := by decide +kernel
theorem dX0_hasRoom_8 : decode cX0_hasRoom 8 = .ok (.getfield 17, 3) := by decide +kernel
theorem dX0_hasRoom_11 : decode cX0_hasRoom 11 = .ok (.ifCond .ne 16, 3) := by decide +kernel
theorem dX0_hasRoom_14 : decode cX0_hasRoom 14 = .ok (.aload_n 0, 1) := by decide +kernel
theorem dX0_hasRoom_15 : decode cX0_hasRoom 15 = .ok (.getfield 20, 3) := by decide +kernel
theorem dX0_hasRoom_18 : decode cX0_hasRoom 18 = .ok (.bipush 10, 2) := by decide +kernel
theorem dX0_hasRoom_20 : decode cX0_hasRoom 20 = .ok (.if_icmp .ge 7, 3) := by decide +kernel
theorem dX0_hasRoom_23 : decode cX0_hasRoom 23 = .ok (.iconst 1, 1) := by decide +kernel
theorem dX0_hasRoom_24 : decode cX0_hasRoom 24 = .ok (.goto 4, 3) := by decide +kernel
theorem dX0_hasRoom_27 : decode cX0_hasRoom 27 = .ok (.iconst 0, 1) := by decide +kernel
theorem dX0_hasRoom_28 : decode cX0_hasRoom 28 = .ok (.ireturn, 1) := by decide +kernel
