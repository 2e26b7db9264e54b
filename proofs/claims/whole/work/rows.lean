section
-- ===== PART A: goes FIRST, ahead of the names: the tables' words, and 'selects' of the private methods out of them =====
/-- a private method of a class that the tables say can be made, by its rows of tables_1 -/
def lw_okq (q : MethodName × Nat) : Prop := (q.1.cls ≠ "java/lang/invoke/MethodHandle" ∧ q.1.cls ≠ "java/lang/invoke/VarHandle") ∧ Cond.instantiable q.1.cls q.2 ∈ tables_1 ∧ Cond.privateMethod q.1 ∈ tables_1 ∧ Cond.instanceMethod q.1 ∈ tables_1
theorem lw_p0 : lw_okq (⟨"LoopSorter", "runOneStep", "()V"⟩, 13) := ⟨⟨by decide +kernel, by decide +kernel⟩, List.mem_of_getElem? (i := 15) (by decide +kernel), List.mem_of_getElem? (i := 180) (by decide +kernel), List.mem_of_getElem? (i := 181) (by decide +kernel)⟩
theorem lw_p1 : lw_okq (⟨"LoopSorter", "passChutes", "()V"⟩, 13) := ⟨⟨by decide +kernel, by decide +kernel⟩, List.mem_of_getElem? (i := 15) (by decide +kernel), List.mem_of_getElem? (i := 184) (by decide +kernel), List.mem_of_getElem? (i := 185) (by decide +kernel)⟩
theorem lw_p2 : lw_okq (⟨"LoopSorter", "trayAt", "(I)I"⟩, 13) := ⟨⟨by decide +kernel, by decide +kernel⟩, List.mem_of_getElem? (i := 15) (by decide +kernel), List.mem_of_getElem? (i := 188) (by decide +kernel), List.mem_of_getElem? (i := 189) (by decide +kernel)⟩
theorem lw_p3 : lw_okq (⟨"LoopSorter", "passChute", "(LLoopSorter$Item;I)V"⟩, 13) := ⟨⟨by decide +kernel, by decide +kernel⟩, List.mem_of_getElem? (i := 15) (by decide +kernel), List.mem_of_getElem? (i := 194) (by decide +kernel), List.mem_of_getElem? (i := 195) (by decide +kernel)⟩
theorem lw_p4 : lw_okq (⟨"LoopSorter", "letOut", "(LLoopSorter$Item;I)V"⟩, 13) := ⟨⟨by decide +kernel, by decide +kernel⟩, List.mem_of_getElem? (i := 15) (by decide +kernel), List.mem_of_getElem? (i := 202) (by decide +kernel), List.mem_of_getElem? (i := 203) (by decide +kernel)⟩
theorem lw_p5 : lw_okq (⟨"LoopSorter", "setTraysOf", "(LLoopSorter$Item;LLoopSorter$Item;)V"⟩, 13) := ⟨⟨by decide +kernel, by decide +kernel⟩, List.mem_of_getElem? (i := 15) (by decide +kernel), List.mem_of_getElem? (i := 206) (by decide +kernel), List.mem_of_getElem? (i := 207) (by decide +kernel)⟩
theorem lw_p6 : lw_okq (⟨"LoopSorter", "trayBehind", "(I)I"⟩, 13) := ⟨⟨by decide +kernel, by decide +kernel⟩, List.mem_of_getElem? (i := 15) (by decide +kernel), List.mem_of_getElem? (i := 210) (by decide +kernel), List.mem_of_getElem? (i := 211) (by decide +kernel)⟩
theorem lw_p7 : lw_okq (⟨"LoopSorter", "takeTurns", "()V"⟩, 13) := ⟨⟨by decide +kernel, by decide +kernel⟩, List.mem_of_getElem? (i := 15) (by decide +kernel), List.mem_of_getElem? (i := 216) (by decide +kernel), List.mem_of_getElem? (i := 217) (by decide +kernel)⟩
theorem lw_p8 : lw_okq (⟨"LoopSorter", "nextInTurn", "()LLoopSorter$Induct;"⟩, 13) := ⟨⟨by decide +kernel, by decide +kernel⟩, List.mem_of_getElem? (i := 15) (by decide +kernel), List.mem_of_getElem? (i := 220) (by decide +kernel), List.mem_of_getElem? (i := 221) (by decide +kernel)⟩
theorem lw_p9 : lw_okq (⟨"LoopSorter", "putFirstOn", "(LLoopSorter$Induct;)V"⟩, 13) := ⟨⟨by decide +kernel, by decide +kernel⟩, List.mem_of_getElem? (i := 15) (by decide +kernel), List.mem_of_getElem? (i := 224) (by decide +kernel), List.mem_of_getElem? (i := 225) (by decide +kernel)⟩
theorem lw_p10 : lw_okq (⟨"LoopSorter", "isFreeFor", "(LLoopSorter$Item;I)Z"⟩, 13) := ⟨⟨by decide +kernel, by decide +kernel⟩, List.mem_of_getElem? (i := 15) (by decide +kernel), List.mem_of_getElem? (i := 232) (by decide +kernel), List.mem_of_getElem? (i := 233) (by decide +kernel)⟩
theorem lw_p11 : lw_okq (⟨"LoopSorter", "itemNumbered", "(I)LLoopSorter$Item;"⟩, 13) := ⟨⟨by decide +kernel, by decide +kernel⟩, List.mem_of_getElem? (i := 15) (by decide +kernel), List.mem_of_getElem? (i := 260) (by decide +kernel), List.mem_of_getElem? (i := 261) (by decide +kernel)⟩
theorem lw_p12 : lw_okq (⟨"LoopSorter", "isTray", "(I)Z"⟩, 13) := ⟨⟨by decide +kernel, by decide +kernel⟩, List.mem_of_getElem? (i := 15) (by decide +kernel), List.mem_of_getElem? (i := 290) (by decide +kernel), List.mem_of_getElem? (i := 291) (by decide +kernel)⟩
theorem lw_p13 : lw_okq (⟨"java/lang/Throwable", "fillInStackTrace", "(I)Ljava/lang/Throwable;"⟩, 6) := ⟨⟨by decide +kernel, by decide +kernel⟩, List.mem_of_getElem? (i := 332) (by decide +kernel), List.mem_of_getElem? (i := 330) (by decide +kernel), List.mem_of_getElem? (i := 331) (by decide +kernel)⟩
theorem lw_p14 : lw_okq (⟨"LoopSorterModel", "waiting", "(I)I"⟩, 22) := ⟨⟨by decide +kernel, by decide +kernel⟩, List.mem_of_getElem? (i := 372) (by decide +kernel), List.mem_of_getElem? (i := 459) (by decide +kernel), List.mem_of_getElem? (i := 460) (by decide +kernel)⟩
theorem lw_p15 : lw_okq (⟨"LoopSorterModel", "move", "()V"⟩, 22) := ⟨⟨by decide +kernel, by decide +kernel⟩, List.mem_of_getElem? (i := 372) (by decide +kernel), List.mem_of_getElem? (i := 467) (by decide +kernel), List.mem_of_getElem? (i := 468) (by decide +kernel)⟩
def lw_privs_1 : List (MethodName × Nat) := [(⟨"LoopSorter", "runOneStep", "()V"⟩, 13), (⟨"LoopSorter", "passChutes", "()V"⟩, 13), (⟨"LoopSorter", "trayAt", "(I)I"⟩, 13), (⟨"LoopSorter", "passChute", "(LLoopSorter$Item;I)V"⟩, 13), (⟨"LoopSorter", "letOut", "(LLoopSorter$Item;I)V"⟩, 13), (⟨"LoopSorter", "setTraysOf", "(LLoopSorter$Item;LLoopSorter$Item;)V"⟩, 13), (⟨"LoopSorter", "trayBehind", "(I)I"⟩, 13), (⟨"LoopSorter", "takeTurns", "()V"⟩, 13), (⟨"LoopSorter", "nextInTurn", "()LLoopSorter$Induct;"⟩, 13), (⟨"LoopSorter", "putFirstOn", "(LLoopSorter$Induct;)V"⟩, 13), (⟨"LoopSorter", "isFreeFor", "(LLoopSorter$Item;I)Z"⟩, 13), (⟨"LoopSorter", "itemNumbered", "(I)LLoopSorter$Item;"⟩, 13), (⟨"LoopSorter", "isTray", "(I)Z"⟩, 13), (⟨"java/lang/Throwable", "fillInStackTrace", "(I)Ljava/lang/Throwable;"⟩, 6), (⟨"LoopSorterModel", "waiting", "(I)I"⟩, 22), (⟨"LoopSorterModel", "move", "()V"⟩, 22)]
theorem lw_r1 : ∀ q ∈ lw_privs_1, lw_okq q := List.forall_mem_cons.mpr ⟨lw_p0, List.forall_mem_cons.mpr ⟨lw_p1, List.forall_mem_cons.mpr ⟨lw_p2, List.forall_mem_cons.mpr ⟨lw_p3, List.forall_mem_cons.mpr ⟨lw_p4, List.forall_mem_cons.mpr ⟨lw_p5, List.forall_mem_cons.mpr ⟨lw_p6, List.forall_mem_cons.mpr ⟨lw_p7, List.forall_mem_cons.mpr ⟨lw_p8, List.forall_mem_cons.mpr ⟨lw_p9, List.forall_mem_cons.mpr ⟨lw_p10, List.forall_mem_cons.mpr ⟨lw_p11, List.forall_mem_cons.mpr ⟨lw_p12, List.forall_mem_cons.mpr ⟨lw_p13, List.forall_mem_cons.mpr ⟨lw_p14, List.forall_mem_cons.mpr ⟨lw_p15, fun _ h => absurd h List.not_mem_nil⟩⟩⟩⟩⟩⟩⟩⟩⟩⟩⟩⟩⟩⟩⟩⟩
theorem lw_p16 : lw_okq (⟨"LoopSorterModel", "passChute", "(I)V"⟩, 22) := ⟨⟨by decide +kernel, by decide +kernel⟩, List.mem_of_getElem? (i := 372) (by decide +kernel), List.mem_of_getElem? (i := 471) (by decide +kernel), List.mem_of_getElem? (i := 472) (by decide +kernel)⟩
theorem lw_p17 : lw_okq (⟨"LoopSorterModel", "hasRoom", "(I)Z"⟩, 22) := ⟨⟨by decide +kernel, by decide +kernel⟩, List.mem_of_getElem? (i := 372) (by decide +kernel), List.mem_of_getElem? (i := 475) (by decide +kernel), List.mem_of_getElem? (i := 476) (by decide +kernel)⟩
theorem lw_p18 : lw_okq (⟨"LoopSorterModel", "goOut", "(III)V"⟩, 22) := ⟨⟨by decide +kernel, by decide +kernel⟩, List.mem_of_getElem? (i := 372) (by decide +kernel), List.mem_of_getElem? (i := 479) (by decide +kernel), List.mem_of_getElem? (i := 480) (by decide +kernel)⟩
theorem lw_p19 : lw_okq (⟨"LoopSorterModel", "before", "(I)I"⟩, 22) := ⟨⟨by decide +kernel, by decide +kernel⟩, List.mem_of_getElem? (i := 372) (by decide +kernel), List.mem_of_getElem? (i := 483) (by decide +kernel), List.mem_of_getElem? (i := 484) (by decide +kernel)⟩
theorem lw_p20 : lw_okq (⟨"LoopSorterModel", "turns", "()V"⟩, 22) := ⟨⟨by decide +kernel, by decide +kernel⟩, List.mem_of_getElem? (i := 372) (by decide +kernel), List.mem_of_getElem? (i := 487) (by decide +kernel), List.mem_of_getElem? (i := 488) (by decide +kernel)⟩
theorem lw_p21 : lw_okq (⟨"LoopSorterModel", "putOn", "(I)V"⟩, 22) := ⟨⟨by decide +kernel, by decide +kernel⟩, List.mem_of_getElem? (i := 372) (by decide +kernel), List.mem_of_getElem? (i := 491) (by decide +kernel), List.mem_of_getElem? (i := 492) (by decide +kernel)⟩
theorem lw_p22 : lw_okq (⟨"LoopSorterModel", "firstWaiting", "(I)I"⟩, 22) := ⟨⟨by decide +kernel, by decide +kernel⟩, List.mem_of_getElem? (i := 372) (by decide +kernel), List.mem_of_getElem? (i := 495) (by decide +kernel), List.mem_of_getElem? (i := 496) (by decide +kernel)⟩
theorem lw_p23 : lw_okq (⟨"LoopSorterModel", "itemOn", "(I)I"⟩, 22) := ⟨⟨by decide +kernel, by decide +kernel⟩, List.mem_of_getElem? (i := 372) (by decide +kernel), List.mem_of_getElem? (i := 507) (by decide +kernel), List.mem_of_getElem? (i := 508) (by decide +kernel)⟩
theorem lw_p24 : lw_okq (⟨"LoopSorterModel", "isItem", "(I)Z"⟩, 22) := ⟨⟨by decide +kernel, by decide +kernel⟩, List.mem_of_getElem? (i := 372) (by decide +kernel), List.mem_of_getElem? (i := 519) (by decide +kernel), List.mem_of_getElem? (i := 520) (by decide +kernel)⟩
def lw_privs_2 : List (MethodName × Nat) := [(⟨"LoopSorterModel", "passChute", "(I)V"⟩, 22), (⟨"LoopSorterModel", "hasRoom", "(I)Z"⟩, 22), (⟨"LoopSorterModel", "goOut", "(III)V"⟩, 22), (⟨"LoopSorterModel", "before", "(I)I"⟩, 22), (⟨"LoopSorterModel", "turns", "()V"⟩, 22), (⟨"LoopSorterModel", "putOn", "(I)V"⟩, 22), (⟨"LoopSorterModel", "firstWaiting", "(I)I"⟩, 22), (⟨"LoopSorterModel", "itemOn", "(I)I"⟩, 22), (⟨"LoopSorterModel", "isItem", "(I)Z"⟩, 22)]
theorem lw_r2 : ∀ q ∈ lw_privs_2, lw_okq q := List.forall_mem_cons.mpr ⟨lw_p16, List.forall_mem_cons.mpr ⟨lw_p17, List.forall_mem_cons.mpr ⟨lw_p18, List.forall_mem_cons.mpr ⟨lw_p19, List.forall_mem_cons.mpr ⟨lw_p20, List.forall_mem_cons.mpr ⟨lw_p21, List.forall_mem_cons.mpr ⟨lw_p22, List.forall_mem_cons.mpr ⟨lw_p23, List.forall_mem_cons.mpr ⟨lw_p24, fun _ h => absurd h List.not_mem_nil⟩⟩⟩⟩⟩⟩⟩⟩⟩
def lw_privs : List (MethodName × Nat) := lw_privs_1 ++ (lw_privs_2)
def lw_tbl : List Cond := k2_sels lw_privs ++ tables_1
theorem lw_privs_ok : ∀ q ∈ lw_privs, lw_okq q := by
  show ∀ q ∈ lw_privs_1 ++ (lw_privs_2), lw_okq q
  exact List.forall_mem_append.mpr ⟨lw_r1, lw_r2⟩
end
section
/-! ===== BEGIN words of one list among another's, by their places ===== -/
theorem goodIn_r {big : List Cond} (ws : List Cond) (ps : List Nat) (hp : ws = ps.filterMap (fun i => big[i]?)) (h : ws.all goodWord = true) : GoodIn big ws := by
  intro w hw
  have h1 := List.all_eq_true.mp h w hw
  rw [hp] at hw
  obtain ⟨i, -, hi⟩ := List.mem_filterMap.mp hw
  have hm : w ∈ big := by first | exact List.mem_of_getElem? hi | exact List.getElem?_mem hi
  exact ⟨hm, good_of_word h1⟩
theorem goodIn_app {big a b : List Cond} (ha : GoodIn big a) (hb : GoodIn big b) : GoodIn big (a ++ b) := fun w h => (List.mem_append.mp h).elim (ha w) (hb w)
theorem goodIn_ca {big a b : List Cond} {c : Cond} (ha : GoodIn big (c :: a)) (hb : GoodIn big b) : GoodIn big (c :: (a ++ b)) := fun w h => (List.mem_cons.mp h).elim (fun e => ha w (List.mem_cons.mpr (Or.inl e))) (fun h => (List.mem_append.mp h).elim (fun h => ha w (List.mem_cons.mpr (Or.inr h))) (hb w))
theorem goodIn_sub {big ws : List Cond} (hm : ∀ w ∈ ws, w ∈ big) (h : ws.all goodWord = true) : GoodIn big ws := fun w hw => ⟨hm w hw, good_of_word (List.all_eq_true.mp h w hw)⟩
/-! ===== END ===== -/

/-! ===== BEGIN printed: names, fields, word lists, decode rows ===== -/
def RX0 : String := "LoopSorter$Chute"
def TX0 : u_T := fun k => match k with
  | 0 => ("LoopSorter$Chute", "position", "I", true)
  | 1 => ("LoopSorter$Chute", "isOverflow", "Z", true)
  | 2 => ("LoopSorter$Chute", "lying", "I", false)
  | _ => ("LoopSorter$Chute", "heldShut", "Z", false)
def tyX0 : Nat → FieldType := fun k => match k with
  | 0 => .int
  | 1 => .boolean
  | 2 => .int
  | _ => .boolean
abbrev wsX00 : List Cond := u_ws RX0 TX0 4
theorem nmX0 : ∀ a, a < 4 → ∀ b, b < 4 → a ≠ b → (TX0 a).2.1 ≠ (TX0 b).2.1 := by decide +kernel
theorem tyX0_ok : ∀ k, k < 4 → parseFieldDescriptor (TX0 k).2.2.1 = some (tyX0 k) := by decide +kernel
abbrev cX0_init : ByteArray := prog_2_method_1_code
def yX0_init : MethodName := ⟨RX0, "<init>", "(IZ)V"⟩
abbrev cX0_hasRoom : ByteArray := prog_2_method_2_code
def yX0_hasRoom : MethodName := ⟨RX0, "hasRoom", "()Z"⟩
abbrev cX0_holdShut : ByteArray := prog_2_method_3_code
def yX0_holdShut : MethodName := ⟨RX0, "holdShut", "()V"⟩
abbrev cX0_empty : ByteArray := prog_2_method_4_code
def yX0_empty : MethodName := ⟨RX0, "empty", "()V"⟩
def RX1 : String := "LoopSorter$Induct"
def TX1 : u_T := fun k => match k with
  | 0 => ("LoopSorter$Induct", "position", "I", true)
  | 1 => ("LoopSorter$Induct", "row", "[LLoopSorter$Item;", true)
  | 2 => ("LoopSorter$Induct", "waiting", "I", false)
  | 3 => ("LoopSorter$Induct", "putOnCount", "J", false)
  | _ => ("LoopSorter$Induct", "hadTurn", "Z", false)
def tyX1 : Nat → FieldType := fun k => match k with
  | 0 => .int
  | 1 => .array (.object "LoopSorter$Item")
  | 2 => .int
  | 3 => .long
  | _ => .boolean
abbrev wsX10 : List Cond := u_ws RX1 TX1 5
theorem nmX1 : ∀ a, a < 5 → ∀ b, b < 5 → a ≠ b → (TX1 a).2.1 ≠ (TX1 b).2.1 := by decide +kernel
theorem tyX1_ok : ∀ k, k < 5 → parseFieldDescriptor (TX1 k).2.2.1 = some (tyX1 k) := by decide +kernel
abbrev cX1_init : ByteArray := prog_3_method_1_code
def yX1_init : MethodName := ⟨RX1, "<init>", "(I)V"⟩
abbrev cX1_isRowFull : ByteArray := prog_3_method_2_code
def yX1_isRowFull : MethodName := ⟨RX1, "isRowFull", "()Z"⟩
abbrev cX1_addLast : ByteArray := prog_3_method_3_code
def yX1_addLast : MethodName := ⟨RX1, "addLast", "(LLoopSorter$Item;)V"⟩
abbrev cX1_first : ByteArray := prog_3_method_4_code
def yX1_first : MethodName := ⟨RX1, "first", "()LLoopSorter$Item;"⟩
abbrev cX1_removeFirst : ByteArray := prog_3_method_5_code
def yX1_removeFirst : MethodName := ⟨RX1, "removeFirst", "()V"⟩
def RX2 : String := "LoopSorter$Item"
def TX2 : u_T := fun k => match k with
  | 0 => ("LoopSorter$Item", "number", "I", true)
  | 1 => ("LoopSorter$Item", "length", "I", true)
  | 2 => ("LoopSorter$Item", "chute", "I", true)
  | 3 => ("LoopSorter$Item", "place", "LLoopSorter$Place;", false)
  | 4 => ("LoopSorter$Item", "ownTray", "I", false)
  | 5 => ("LoopSorter$Item", "rounds", "I", false)
  | 6 => ("LoopSorter$Item", "outChute", "I", false)
  | _ => ("LoopSorter$Item", "outTime", "I", false)
def tyX2 : Nat → FieldType := fun k => match k with
  | 0 => .int
  | 1 => .int
  | 2 => .int
  | 3 => .object "LoopSorter$Place"
  | 4 => .int
  | 5 => .int
  | 6 => .int
  | _ => .int
abbrev wsX20 : List Cond := u_ws RX2 TX2 8
theorem nmX2 : ∀ a, a < 8 → ∀ b, b < 8 → a ≠ b → (TX2 a).2.1 ≠ (TX2 b).2.1 := by decide +kernel
theorem tyX2_ok : ∀ k, k < 8 → parseFieldDescriptor (TX2 k).2.2.1 = some (tyX2 k) := by decide +kernel
abbrev cX2_init : ByteArray := prog_4_method_1_code
def yX2_init : MethodName := ⟨RX2, "<init>", "(III)V"⟩
def RX3 : String := "LoopSorter$Place"
def TX3 : u_T := fun k => match k with
  | _ => ("", "", "", false)
def tyX3 : Nat → FieldType := fun k => match k with
  | _ => .int
abbrev wsX30 : List Cond := u_ws RX3 TX3 0
theorem nmX3 : ∀ a, a < 0 → ∀ b, b < 0 → a ≠ b → (TX3 a).2.1 ≠ (TX3 b).2.1 := by decide +kernel
theorem tyX3_ok : ∀ k, k < 0 → parseFieldDescriptor (TX3 k).2.2.1 = some (tyX3 k) := by decide +kernel
def RX4 : String := "LoopSorter"
def TX4 : u_T := fun k => match k with
  | 0 => ("LoopSorter", "trayCount", "I", true)
  | 1 => ("LoopSorter", "roundsAllowed", "I", true)
  | 2 => ("LoopSorter", "carriedBy", "[LLoopSorter$Item;", true)
  | 3 => ("LoopSorter", "inducts", "[LLoopSorter$Induct;", true)
  | 4 => ("LoopSorter", "chutes", "[LLoopSorter$Chute;", true)
  | 5 => ("LoopSorter", "items", "[LLoopSorter$Item;", true)
  | 6 => ("LoopSorter", "gone", "[LLoopSorter$Item;", true)
  | 7 => ("LoopSorter", "itemCount", "I", false)
  | 8 => ("LoopSorter", "goneCount", "I", false)
  | 9 => ("LoopSorter", "carriedCount", "I", false)
  | 10 => ("LoopSorter", "movesPerStep", "I", false)
  | 11 => ("LoopSorter", "time", "I", false)
  | _ => ("LoopSorter", "shift", "I", false)
def tyX4 : Nat → FieldType := fun k => match k with
  | 0 => .int
  | 1 => .int
  | 2 => .array (.object "LoopSorter$Item")
  | 3 => .array (.object "LoopSorter$Induct")
  | 4 => .array (.object "LoopSorter$Chute")
  | 5 => .array (.object "LoopSorter$Item")
  | 6 => .array (.object "LoopSorter$Item")
  | 7 => .int
  | 8 => .int
  | 9 => .int
  | 10 => .int
  | 11 => .int
  | _ => .int
abbrev wsX40 : List Cond := u_ws RX4 TX4 13
theorem nmX4 : ∀ a, a < 13 → ∀ b, b < 13 → a ≠ b → (TX4 a).2.1 ≠ (TX4 b).2.1 := by decide +kernel
theorem tyX4_ok : ∀ k, k < 13 → parseFieldDescriptor (TX4 k).2.2.1 = some (tyX4 k) := by decide +kernel
abbrev cX4_init : ByteArray := prog_1_method_1_code
def yX4_init : MethodName := ⟨RX4, "<init>", "(II)V"⟩
abbrev cX4_induct : ByteArray := prog_1_method_2_code
def yX4_induct : MethodName := ⟨RX4, "induct", "(III)I"⟩
abbrev cX4_step : ByteArray := prog_1_method_3_code
def yX4_step : MethodName := ⟨RX4, "step", "(I)I"⟩
abbrev cX4_out : ByteArray := prog_1_method_4_code
def yX4_out : MethodName := ⟨RX4, "out", "(II)I"⟩
abbrev cX4_tray : ByteArray := prog_1_method_5_code
def yX4_tray : MethodName := ⟨RX4, "tray", "(I)I"⟩
abbrev cX4_full : ByteArray := prog_1_method_6_code
def yX4_full : MethodName := ⟨RX4, "full", "(IZ)I"⟩
abbrev cX4_missed : ByteArray := prog_1_method_7_code
def yX4_missed : MethodName := ⟨RX4, "missed", "(I)I"⟩
abbrev cX4_found : ByteArray := prog_1_method_8_code
def yX4_found : MethodName := ⟨RX4, "found", "(II)I"⟩
abbrev cX4_speed : ByteArray := prog_1_method_9_code
def yX4_speed : MethodName := ⟨RX4, "speed", "(I)I"⟩
abbrev cX4_share : ByteArray := prog_1_method_10_code
def yX4_share : MethodName := ⟨RX4, "share", "(I)J"⟩
abbrev cX4_round : ByteArray := prog_1_method_11_code
def yX4_round : MethodName := ⟨RX4, "round", "(I)I"⟩
abbrev cX4_bringWithin : ByteArray := prog_1_method_12_code
def yX4_bringWithin : MethodName := ⟨RX4, "bringWithin", "(II)I"⟩
abbrev cX4_isInduct : ByteArray := prog_1_method_13_code
def yX4_isInduct : MethodName := ⟨RX4, "isInduct", "(I)Z"⟩
abbrev cX4_isChute : ByteArray := prog_1_method_14_code
def yX4_isChute : MethodName := ⟨RX4, "isChute", "(I)Z"⟩
abbrev cX4_isTray : ByteArray := prog_1_method_15_code
def yX4_isTray : MethodName := ⟨RX4, "isTray", "(I)Z"⟩
abbrev cX4_itemNumbered : ByteArray := prog_1_method_16_code
def yX4_itemNumbered : MethodName := ⟨RX4, "itemNumbered", "(I)LLoopSorter$Item;"⟩
abbrev cX4_runOneStep : ByteArray := prog_1_method_17_code
def yX4_runOneStep : MethodName := ⟨RX4, "runOneStep", "()V"⟩
abbrev cX4_passChutes : ByteArray := prog_1_method_18_code
def yX4_passChutes : MethodName := ⟨RX4, "passChutes", "()V"⟩
abbrev cX4_passChute : ByteArray := prog_1_method_19_code
def yX4_passChute : MethodName := ⟨RX4, "passChute", "(LLoopSorter$Item;I)V"⟩
abbrev cX4_letOut : ByteArray := prog_1_method_20_code
def yX4_letOut : MethodName := ⟨RX4, "letOut", "(LLoopSorter$Item;I)V"⟩
abbrev cX4_takeTurns : ByteArray := prog_1_method_21_code
def yX4_takeTurns : MethodName := ⟨RX4, "takeTurns", "()V"⟩
abbrev cX4_nextInTurn : ByteArray := prog_1_method_22_code
def yX4_nextInTurn : MethodName := ⟨RX4, "nextInTurn", "()LLoopSorter$Induct;"⟩
abbrev cX4_putFirstOn : ByteArray := prog_1_method_23_code
def yX4_putFirstOn : MethodName := ⟨RX4, "putFirstOn", "(LLoopSorter$Induct;)V"⟩
abbrev cX4_isFreeFor : ByteArray := prog_1_method_24_code
def yX4_isFreeFor : MethodName := ⟨RX4, "isFreeFor", "(LLoopSorter$Item;I)Z"⟩
abbrev cX4_setTraysOf : ByteArray := prog_1_method_25_code
def yX4_setTraysOf : MethodName := ⟨RX4, "setTraysOf", "(LLoopSorter$Item;LLoopSorter$Item;)V"⟩
abbrev cX4_trayAt : ByteArray := prog_1_method_26_code
def yX4_trayAt : MethodName := ⟨RX4, "trayAt", "(I)I"⟩
abbrev cX4_trayBehind : ByteArray := prog_1_method_27_code
def yX4_trayBehind : MethodName := ⟨RX4, "trayBehind", "(I)I"⟩
def RX5 : String := "LoopSorterModel"
def TX5 : u_T := fun k => match k with
  | 0 => ("LoopSorterModel", "thrown", "I", false)
  | 1 => ("LoopSorterModel", "trays", "I", true)
  | 2 => ("LoopSorterModel", "most", "I", true)
  | 3 => ("LoopSorterModel", "number", "[I", true)
  | 4 => ("LoopSorterModel", "load", "[I", true)
  | 5 => ("LoopSorterModel", "speed", "I", false)
  | 6 => ("LoopSorterModel", "time", "I", false)
  | 7 => ("LoopSorterModel", "items", "I", false)
  | 8 => ("LoopSorterModel", "length", "[I", true)
  | 9 => ("LoopSorterModel", "chute", "[I", true)
  | 10 => ("LoopSorterModel", "where", "[I", true)
  | 11 => ("LoopSorterModel", "own", "[I", true)
  | 12 => ("LoopSorterModel", "rounds", "[I", true)
  | 13 => ("LoopSorterModel", "at", "[I", true)
  | 14 => ("LoopSorterModel", "shares", "[J", true)
  | 15 => ("LoopSorterModel", "lying", "[I", true)
  | 16 => ("LoopSorterModel", "shut", "[Z", true)
  | 17 => ("LoopSorterModel", "gone", "I", false)
  | 18 => ("LoopSorterModel", "goneItem", "[I", true)
  | 19 => ("LoopSorterModel", "goneChute", "[I", true)
  | 20 => ("LoopSorterModel", "goneTime", "[I", true)
  | _ => ("LoopSorterModel", "had", "[Z", true)
def tyX5 : Nat → FieldType := fun k => match k with
  | 0 => .int
  | 1 => .int
  | 2 => .int
  | 3 => .array .int
  | 4 => .array .int
  | 5 => .int
  | 6 => .int
  | 7 => .int
  | 8 => .array .int
  | 9 => .array .int
  | 10 => .array .int
  | 11 => .array .int
  | 12 => .array .int
  | 13 => .array .int
  | 14 => .array .long
  | 15 => .array .int
  | 16 => .array .boolean
  | 17 => .int
  | 18 => .array .int
  | 19 => .array .int
  | 20 => .array .int
  | _ => .array .boolean
abbrev wsX50 : List Cond := u_ws RX5 TX5 22
theorem nmX5 : ∀ a, a < 22 → ∀ b, b < 22 → a ≠ b → (TX5 a).2.1 ≠ (TX5 b).2.1 := by decide +kernel
theorem tyX5_ok : ∀ k, k < 22 → parseFieldDescriptor (TX5 k).2.2.1 = some (tyX5 k) := by decide +kernel
abbrev cX5_init : ByteArray := prog_7_method_1_code
def yX5_init : MethodName := ⟨RX5, "<init>", "(II)V"⟩
abbrev cX5_thrown : ByteArray := prog_7_method_2_code
def yX5_thrown : MethodName := ⟨RX5, "thrown", "()I"⟩
abbrev cX5_in : ByteArray := prog_7_method_3_code
def yX5_in : MethodName := ⟨RX5, "in", "(III)Z"⟩
abbrev cX5_waiting : ByteArray := prog_7_method_4_code
def yX5_waiting : MethodName := ⟨RX5, "waiting", "(I)I"⟩
abbrev cX5_induct : ByteArray := prog_7_method_5_code
def yX5_induct : MethodName := ⟨RX5, "induct", "(III)I"⟩
abbrev cX5_move : ByteArray := prog_7_method_6_code
def yX5_move : MethodName := ⟨RX5, "move", "()V"⟩
abbrev cX5_before : ByteArray := prog_7_method_7_code
def yX5_before : MethodName := ⟨RX5, "before", "(I)I"⟩
abbrev cX5_hasRoom : ByteArray := prog_7_method_8_code
def yX5_hasRoom : MethodName := ⟨RX5, "hasRoom", "(I)Z"⟩
abbrev cX5_goOut : ByteArray := prog_7_method_9_code
def yX5_goOut : MethodName := ⟨RX5, "goOut", "(III)V"⟩
abbrev cX5_passChute : ByteArray := prog_7_method_10_code
def yX5_passChute : MethodName := ⟨RX5, "passChute", "(I)V"⟩
abbrev cX5_firstWaiting : ByteArray := prog_7_method_11_code
def yX5_firstWaiting : MethodName := ⟨RX5, "firstWaiting", "(I)I"⟩
abbrev cX5_putOn : ByteArray := prog_7_method_12_code
def yX5_putOn : MethodName := ⟨RX5, "putOn", "(I)V"⟩
abbrev cX5_turns : ByteArray := prog_7_method_13_code
def yX5_turns : MethodName := ⟨RX5, "turns", "()V"⟩
abbrev cX5_step : ByteArray := prog_7_method_14_code
def yX5_step : MethodName := ⟨RX5, "step", "(I)I"⟩
abbrev cX5_out : ByteArray := prog_7_method_15_code
def yX5_out : MethodName := ⟨RX5, "out", "(II)I"⟩
abbrev cX5_itemOn : ByteArray := prog_7_method_16_code
def yX5_itemOn : MethodName := ⟨RX5, "itemOn", "(I)I"⟩
abbrev cX5_tray : ByteArray := prog_7_method_17_code
def yX5_tray : MethodName := ⟨RX5, "tray", "(I)I"⟩
abbrev cX5_full : ByteArray := prog_7_method_18_code
def yX5_full : MethodName := ⟨RX5, "full", "(IZ)I"⟩
abbrev cX5_isItem : ByteArray := prog_7_method_19_code
def yX5_isItem : MethodName := ⟨RX5, "isItem", "(I)Z"⟩
abbrev cX5_missed : ByteArray := prog_7_method_20_code
def yX5_missed : MethodName := ⟨RX5, "missed", "(I)I"⟩
abbrev cX5_found : ByteArray := prog_7_method_21_code
def yX5_found : MethodName := ⟨RX5, "found", "(II)I"⟩
abbrev cX5_speed : ByteArray := prog_7_method_22_code
def yX5_speed : MethodName := ⟨RX5, "speed", "(I)I"⟩
abbrev cX5_share : ByteArray := prog_7_method_23_code
def yX5_share : MethodName := ⟨RX5, "share", "(I)J"⟩
abbrev cX5_round : ByteArray := prog_7_method_24_code
def yX5_round : MethodName := ⟨RX5, "round", "(I)I"⟩
def RJx00060 : String := "java/lang/ArrayIndexOutOfBoundsException"
def TJx00060 : u_T := fun k => match k with
  | 0 => ("java/lang/Throwable", "cause", "Ljava/lang/Throwable;", false)
  | 1 => ("java/lang/Throwable", "stackTrace", "[Ljava/lang/StackTraceElement;", false)
  | 2 => ("java/lang/Throwable", "suppressedExceptions", "Ljava/util/List;", false)
  | 3 => ("java/lang/Throwable", "detailMessage", "Ljava/lang/String;", false)
  | 4 => ("java/lang/Throwable", "backtrace", "Ljava/lang/Object;", false)
  | _ => ("java/lang/Throwable", "depth", "I", false)
def tyJx00060 : Nat → FieldType := fun k => match k with
  | 0 => .object "java/lang/Throwable"
  | 1 => .array (.object "java/lang/StackTraceElement")
  | 2 => .object "java/util/List"
  | 3 => .object "java/lang/String"
  | 4 => .object "java/lang/Object"
  | _ => .int
abbrev wsJx000600 : List Cond := u_ws RJx00060 TJx00060 6
theorem nmJx00060 : ∀ a, a < 6 → ∀ b, b < 6 → a ≠ b → (TJx00060 a).2.1 ≠ (TJx00060 b).2.1 := by decide +kernel
theorem tyJx00060_ok : ∀ k, k < 6 → parseFieldDescriptor (TJx00060 k).2.2.1 = some (tyJx00060 k) := by decide +kernel
abbrev cJx00060_init_a7421 : ByteArray := prog_8_method_2_code
def yJx00060_init_a7421 : MethodName := ⟨RJx00060, "<init>", "(Ljava/lang/String;)V"⟩
def RJx29ce0 : String := "java/lang/Enum"
def TJx29ce0 : u_T := fun k => match k with
  | _ => ("", "", "", false)
def tyJx29ce0 : Nat → FieldType := fun k => match k with
  | _ => .int
abbrev wsJx29ce00 : List Cond := u_ws RJx29ce0 TJx29ce0 0
theorem nmJx29ce0 : ∀ a, a < 0 → ∀ b, b < 0 → a ≠ b → (TJx29ce0 a).2.1 ≠ (TJx29ce0 b).2.1 := by decide +kernel
theorem tyJx29ce0_ok : ∀ k, k < 0 → parseFieldDescriptor (TJx29ce0 k).2.2.1 = some (tyJx29ce0 k) := by decide +kernel
def RJ9 : String := "java/lang/Math"
def TJ9 : u_T := fun k => match k with
  | _ => ("", "", "", false)
def tyJ9 : Nat → FieldType := fun k => match k with
  | _ => .int
abbrev wsJ90 : List Cond := u_ws RJ9 TJ9 0
theorem nmJ9 : ∀ a, a < 0 → ∀ b, b < 0 → a ≠ b → (TJ9 a).2.1 ≠ (TJ9 b).2.1 := by decide +kernel
theorem tyJ9_ok : ∀ k, k < 0 → parseFieldDescriptor (TJ9 k).2.2.1 = some (tyJ9 k) := by decide +kernel
abbrev cJ9_max_7cf53 : ByteArray := prog_12_method_65_code
def yJ9_max_7cf53 : MethodName := ⟨RJ9, "max", "(II)I"⟩
abbrev cJ9_min_7cf53 : ByteArray := prog_12_method_69_code
def yJ9_min_7cf53 : MethodName := ⟨RJ9, "min", "(II)I"⟩
def RJ0 : String := "java/lang/String"
def TJ0 : u_T := fun k => match k with
  | _ => ("", "", "", false)
def tyJ0 : Nat → FieldType := fun k => match k with
  | _ => .int
abbrev wsJ00 : List Cond := u_ws RJ0 TJ0 0
theorem nmJ0 : ∀ a, a < 0 → ∀ b, b < 0 → a ≠ b → (TJ0 a).2.1 ≠ (TJ0 b).2.1 := by decide +kernel
theorem tyJ0_ok : ∀ k, k < 0 → parseFieldDescriptor (TJ0 k).2.2.1 = some (tyJ0 k) := by decide +kernel
def RL : String := "LoopSorterLaw"
abbrev cL_cell : ByteArray := method_2_code
def yL_cell : MethodName := ⟨RL, "cell", "([II)I"⟩
abbrev cL_tray : ByteArray := method_3_code
def yL_tray : MethodName := ⟨RL, "tray", "(LLoopSorter;I[J)I"⟩
abbrev cL_found : ByteArray := method_4_code
def yL_found : MethodName := ⟨RL, "found", "(LLoopSorter;II[J)I"⟩
abbrev cL_law : ByteArray := code
def yL_law : MethodName := ⟨RL, "law", "([I)Z"⟩
def wsX0_init : List Cond := .code yX0_init cX0_init 3 none :: ([.methodLink RX0 1 objectInit, .instanceMethod objectInit, .code objectInit ⟨#[0xb1]⟩ 1 none, .fieldLink RX0 7 "LoopSorter$Chute" "position" "I", .fieldLink RX0 13 "LoopSorter$Chute" "isOverflow" "Z"] ++ wsX00)
def wsX0_hasRoom : List Cond := .code yX0_hasRoom cX0_hasRoom 1 (some .boolean) :: ([.fieldLink RX0 13 "LoopSorter$Chute" "isOverflow" "Z", .fieldLink RX0 17 "LoopSorter$Chute" "heldShut" "Z", .fieldLink RX0 20 "LoopSorter$Chute" "lying" "I"] ++ wsX00)
def wsX0_holdShut : List Cond := .code yX0_holdShut cX0_holdShut 1 none :: ([.fieldLink RX0 17 "LoopSorter$Chute" "heldShut" "Z"] ++ wsX00)
def wsX0_empty : List Cond := .code yX0_empty cX0_empty 1 none :: ([.fieldLink RX0 17 "LoopSorter$Chute" "heldShut" "Z", .fieldLink RX0 20 "LoopSorter$Chute" "lying" "I"] ++ wsX00)
def wsX1_init : List Cond := .code yX1_init cX1_init 2 none :: ([.methodLink RX1 1 objectInit, .instanceMethod objectInit, .code objectInit ⟨#[0xb1]⟩ 1 none, .fieldLink RX1 7 "LoopSorter$Induct" "position" "I", .classLink RX1 13 RX2, .fieldLink RX1 15 "LoopSorter$Induct" "row" "[LLoopSorter$Item;"] ++ wsX10)
def wsX1_isRowFull : List Cond := .code yX1_isRowFull cX1_isRowFull 1 (some .boolean) :: ([.fieldLink RX1 19 "LoopSorter$Induct" "waiting" "I"] ++ wsX10)
def wsX1_addLast : List Cond := .code yX1_addLast cX1_addLast 2 none :: ([.fieldLink RX1 15 "LoopSorter$Induct" "row" "[LLoopSorter$Item;", .fieldLink RX1 19 "LoopSorter$Induct" "waiting" "I", .methodLink RX1 22 yX1_isRowFull, .instanceMethod yX1_isRowFull, .selects RX1 yX1_isRowFull yX1_isRowFull, .initialized RX1, .code yX1_isRowFull cX1_isRowFull 1 (some .boolean)] ++ wsX10)
def wsX1_first : List Cond := .code yX1_first cX1_first 1 (some (.object "LoopSorter$Item")) :: ([.fieldLink RX1 19 "LoopSorter$Induct" "waiting" "I", .fieldLink RX1 15 "LoopSorter$Induct" "row" "[LLoopSorter$Item;"] ++ wsX10)
def wsX1_removeFirst : List Cond := .code yX1_removeFirst cX1_removeFirst 2 none :: ([.fieldLink RX1 19 "LoopSorter$Induct" "waiting" "I", .fieldLink RX1 15 "LoopSorter$Induct" "row" "[LLoopSorter$Item;"] ++ wsX10)
def wsX2_init : List Cond := .code yX2_init cX2_init 4 none :: ([.methodLink RX2 1 objectInit, .instanceMethod objectInit, .code objectInit ⟨#[0xb1]⟩ 1 none, .fieldLink RX2 7 "LoopSorter$Item" "number" "I", .fieldLink RX2 13 "LoopSorter$Item" "length" "I", .fieldLink RX2 16 "LoopSorter$Item" "chute" "I", .fieldLink RX2 19 "LoopSorter$Place" "WAITING" "LLoopSorter$Place;", .fieldLink RX2 25 "LoopSorter$Item" "place" "LLoopSorter$Place;"] ++ wsX20)
def wsX4_bringWithin : List Cond := .code yX4_bringWithin cX4_bringWithin 2 (some .int) :: ([.methodLink RX4 136 Lib.Math.min.name, .static Lib.Math.min.name, .initialized "java/lang/Math", .code Lib.Math.min.name Lib.Math.min.code 2 (some .int), .methodLink RX4 141 Lib.Math.max.name, .static Lib.Math.max.name, .code Lib.Math.max.name Lib.Math.max.code 2 (some .int)])
def wsX4_init_r1 : List Cond := [Cond.methodLink RX4 1 objectInit, Cond.instanceMethod objectInit, Cond.code objectInit ⟨#[0xb1]⟩ 1 none, Cond.fieldLink RX4 13 "LoopSorter" "trayCount" "I", Cond.fieldLink RX4 17 "LoopSorter" "roundsAllowed" "I", Cond.classLink RX4 20 RX2, Cond.fieldLink RX4 22 "LoopSorter" "carriedBy" "[LLoopSorter$Item;", Cond.fieldLink RX4 26 "LoopSorter" "items" "[LLoopSorter$Item;", Cond.fieldLink RX4 29 "LoopSorter" "gone" "[LLoopSorter$Item;", Cond.fieldLink RX4 32 "LoopSorter" "movesPerStep" "I", Cond.classLink RX4 35 RX1, Cond.fieldLink RX4 37 "LoopSorter" "inducts" "[LLoopSorter$Induct;", Cond.instantiable RX1 5, Cond.initialized RX1, Cond.classLink RX4 44 RX0, Cond.fieldLink RX4 46 "LoopSorter" "chutes" "[LLoopSorter$Chute;", Cond.instantiable RX0 4, Cond.initialized RX0, Cond.methodLink RX4 9 yX4_bringWithin, Cond.static yX4_bringWithin, Cond.initialized RX4, Cond.code yX4_bringWithin cX4_bringWithin 2 (some .int), Cond.methodLink RX4 136 Lib.Math.min.name, Cond.static Lib.Math.min.name]
def wsX4_init_r2 : List Cond := [Cond.initialized "java/lang/Math", Cond.code Lib.Math.min.name Lib.Math.min.code 2 (some .int), Cond.methodLink RX4 141 Lib.Math.max.name, Cond.static Lib.Math.max.name, Cond.code Lib.Math.max.name Lib.Math.max.code 2 (some .int), Cond.methodLink RX4 41 yX1_init, Cond.instanceMethod yX1_init, Cond.code yX1_init cX1_init 2 none, Cond.methodLink RX1 1 objectInit, Cond.fieldLink RX1 7 "LoopSorter$Induct" "position" "I", Cond.classLink RX1 13 RX2, Cond.fieldLink RX1 15 "LoopSorter$Induct" "row" "[LLoopSorter$Item;", Cond.methodLink RX4 50 yX0_init, Cond.instanceMethod yX0_init, Cond.code yX0_init cX0_init 3 none, Cond.methodLink RX0 1 objectInit, Cond.fieldLink RX0 7 "LoopSorter$Chute" "position" "I", Cond.fieldLink RX0 13 "LoopSorter$Chute" "isOverflow" "Z"]
def wsX4_init : List Cond := .code yX4_init cX4_init 4 none :: ((wsX4_init_r1 ++ wsX4_init_r2) ++ wsX40 ++ wsX10 ++ wsX00)
def wsX4_isInduct : List Cond := .code yX4_isInduct cX4_isInduct 1 (some .boolean) :: ([])
def wsX4_isChute : List Cond := .code yX4_isChute cX4_isChute 1 (some .boolean) :: ([])
def wsX4_induct_r1 : List Cond := [Cond.fieldLink RX4 60 "LoopSorter" "itemCount" "I", Cond.fieldLink RX4 37 "LoopSorter" "inducts" "[LLoopSorter$Induct;", Cond.classLink RX4 20 RX2, Cond.instantiable RX2 8, Cond.initialized RX2, Cond.fieldLink RX4 26 "LoopSorter" "items" "[LLoopSorter$Item;", Cond.fieldLink RX4 74 "LoopSorter$Item" "number" "I", Cond.methodLink RX4 53 yX4_isInduct, Cond.static yX4_isInduct, Cond.initialized RX4, Cond.code yX4_isInduct cX4_isInduct 1 (some .boolean), Cond.methodLink RX4 57 yX4_isChute, Cond.static yX4_isChute, Cond.code yX4_isChute cX4_isChute 1 (some .boolean), Cond.methodLink RX4 63 yX1_isRowFull, Cond.instanceMethod yX1_isRowFull, Cond.selects RX1 yX1_isRowFull yX1_isRowFull, Cond.initialized RX1, Cond.code yX1_isRowFull cX1_isRowFull 1 (some .boolean), Cond.fieldLink RX1 19 "LoopSorter$Induct" "waiting" "I", Cond.methodLink RX4 67 yX2_init, Cond.instanceMethod yX2_init, Cond.code yX2_init cX2_init 4 none, Cond.methodLink RX2 1 objectInit]
def wsX4_induct_r2 : List Cond := [Cond.instanceMethod objectInit, Cond.code objectInit ⟨#[0xb1]⟩ 1 none, Cond.fieldLink RX2 7 "LoopSorter$Item" "number" "I", Cond.fieldLink RX2 13 "LoopSorter$Item" "length" "I", Cond.fieldLink RX2 16 "LoopSorter$Item" "chute" "I", Cond.fieldLink RX2 19 "LoopSorter$Place" "WAITING" "LLoopSorter$Place;", Cond.fieldLink RX2 25 "LoopSorter$Item" "place" "LLoopSorter$Place;", Cond.methodLink RX4 70 yX1_addLast, Cond.instanceMethod yX1_addLast, Cond.selects RX1 yX1_addLast yX1_addLast, Cond.code yX1_addLast cX1_addLast 2 none, Cond.fieldLink RX1 15 "LoopSorter$Induct" "row" "[LLoopSorter$Item;", Cond.methodLink RX1 22 yX1_isRowFull]
def wsX4_induct : List Cond := .code yX4_induct cX4_induct 5 (some .int) :: ((wsX4_induct_r1 ++ wsX4_induct_r2) ++ wsX40 ++ wsX20 ++ wsX10)
def wsX4_trayAt : List Cond := .code yX4_trayAt cX4_trayAt 3 (some .int) :: ([.fieldLink RX4 144 "LoopSorter" "shift" "I", .fieldLink RX4 13 "LoopSorter" "trayCount" "I"] ++ wsX40)
def wsX4_trayBehind : List Cond := .code yX4_trayBehind cX4_trayBehind 2 (some .int) :: ([.fieldLink RX4 13 "LoopSorter" "trayCount" "I"] ++ wsX40)
def wsX4_setTraysOf : List Cond := .code yX4_setTraysOf cX4_setTraysOf 3 none :: ([.fieldLink RX4 22 "LoopSorter" "carriedBy" "[LLoopSorter$Item;", .fieldLink RX4 127 "LoopSorter$Item" "ownTray" "I", .fieldLink RX4 210 "LoopSorter$Item" "length" "I", .methodLink RX4 213 yX4_trayBehind, .instanceMethod yX4_trayBehind, .selects RX4 yX4_trayBehind yX4_trayBehind, .initialized RX4, .code yX4_trayBehind cX4_trayBehind 2 (some .int), .fieldLink RX4 13 "LoopSorter" "trayCount" "I"] ++ wsX40 ++ wsX20)
def wsX4_letOut : List Cond := .code yX4_letOut cX4_letOut 3 none :: ([.fieldLink RX4 147 "LoopSorter" "carriedCount" "I", .fieldLink RX4 46 "LoopSorter" "chutes" "[LLoopSorter$Chute;", .fieldLink RX4 102 "LoopSorter$Chute" "lying" "I", .fieldLink RX4 183 "LoopSorter$Place" "OUT" "LLoopSorter$Place;", .fieldLink RX4 115 "LoopSorter$Item" "place" "LLoopSorter$Place;", .fieldLink RX4 83 "LoopSorter$Item" "outChute" "I", .fieldLink RX4 153 "LoopSorter" "time" "I", .fieldLink RX4 86 "LoopSorter$Item" "outTime" "I", .fieldLink RX4 29 "LoopSorter" "gone" "[LLoopSorter$Item;", .fieldLink RX4 77 "LoopSorter" "goneCount" "I", .methodLink RX4 179 yX4_setTraysOf, .instanceMethod yX4_setTraysOf, .selects RX4 yX4_setTraysOf yX4_setTraysOf, .initialized RX4, .code yX4_setTraysOf cX4_setTraysOf 3 none, .fieldLink RX4 22 "LoopSorter" "carriedBy" "[LLoopSorter$Item;", .fieldLink RX4 127 "LoopSorter$Item" "ownTray" "I", .fieldLink RX4 210 "LoopSorter$Item" "length" "I", .methodLink RX4 213 yX4_trayBehind, .instanceMethod yX4_trayBehind, .selects RX4 yX4_trayBehind yX4_trayBehind, .code yX4_trayBehind cX4_trayBehind 2 (some .int), .fieldLink RX4 13 "LoopSorter" "trayCount" "I"] ++ wsX40 ++ wsX00 ++ wsX20)
def wsX4_passChute_r1 : List Cond := [Cond.fieldLink RX4 170 "LoopSorter$Item" "chute" "I", Cond.fieldLink RX4 89 "LoopSorter$Item" "rounds" "I", Cond.fieldLink RX4 17 "LoopSorter" "roundsAllowed" "I", Cond.fieldLink RX4 46 "LoopSorter" "chutes" "[LLoopSorter$Chute;", Cond.methodLink RX4 173 yX0_hasRoom, Cond.instanceMethod yX0_hasRoom, Cond.selects RX0 yX0_hasRoom yX0_hasRoom, Cond.initialized RX0, Cond.code yX0_hasRoom cX0_hasRoom 1 (some .boolean), Cond.fieldLink RX0 13 "LoopSorter$Chute" "isOverflow" "Z", Cond.fieldLink RX0 17 "LoopSorter$Chute" "heldShut" "Z", Cond.fieldLink RX0 20 "LoopSorter$Chute" "lying" "I", Cond.methodLink RX4 176 yX4_letOut, Cond.instanceMethod yX4_letOut, Cond.selects RX4 yX4_letOut yX4_letOut, Cond.initialized RX4, Cond.code yX4_letOut cX4_letOut 3 none, Cond.fieldLink RX4 147 "LoopSorter" "carriedCount" "I", Cond.fieldLink RX4 102 "LoopSorter$Chute" "lying" "I", Cond.fieldLink RX4 183 "LoopSorter$Place" "OUT" "LLoopSorter$Place;", Cond.fieldLink RX4 115 "LoopSorter$Item" "place" "LLoopSorter$Place;", Cond.fieldLink RX4 83 "LoopSorter$Item" "outChute" "I", Cond.fieldLink RX4 153 "LoopSorter" "time" "I", Cond.fieldLink RX4 86 "LoopSorter$Item" "outTime" "I"]
def wsX4_passChute_r2 : List Cond := [Cond.fieldLink RX4 29 "LoopSorter" "gone" "[LLoopSorter$Item;", Cond.fieldLink RX4 77 "LoopSorter" "goneCount" "I", Cond.methodLink RX4 179 yX4_setTraysOf, Cond.instanceMethod yX4_setTraysOf, Cond.selects RX4 yX4_setTraysOf yX4_setTraysOf, Cond.code yX4_setTraysOf cX4_setTraysOf 3 none, Cond.fieldLink RX4 22 "LoopSorter" "carriedBy" "[LLoopSorter$Item;", Cond.fieldLink RX4 127 "LoopSorter$Item" "ownTray" "I", Cond.fieldLink RX4 210 "LoopSorter$Item" "length" "I", Cond.methodLink RX4 213 yX4_trayBehind, Cond.instanceMethod yX4_trayBehind, Cond.selects RX4 yX4_trayBehind yX4_trayBehind, Cond.code yX4_trayBehind cX4_trayBehind 2 (some .int), Cond.fieldLink RX4 13 "LoopSorter" "trayCount" "I"]
def wsX4_passChute : List Cond := .code yX4_passChute cX4_passChute 5 none :: ((wsX4_passChute_r1 ++ wsX4_passChute_r2) ++ wsX20 ++ wsX40 ++ wsX00)
def wsX4_passChutes_r1 : List Cond := [Cond.fieldLink RX4 46 "LoopSorter" "chutes" "[LLoopSorter$Chute;", Cond.fieldLink RX4 159 "LoopSorter$Chute" "position" "I", Cond.fieldLink RX4 22 "LoopSorter" "carriedBy" "[LLoopSorter$Item;", Cond.fieldLink RX4 127 "LoopSorter$Item" "ownTray" "I", Cond.fieldLink RX4 115 "LoopSorter$Item" "place" "LLoopSorter$Place;", Cond.fieldLink RX4 119 "LoopSorter$Place" "CARRIED" "LLoopSorter$Place;", Cond.methodLink RX4 162 yX4_trayAt, Cond.instanceMethod yX4_trayAt, Cond.selects RX4 yX4_trayAt yX4_trayAt, Cond.initialized RX4, Cond.code yX4_trayAt cX4_trayAt 3 (some .int), Cond.fieldLink RX4 144 "LoopSorter" "shift" "I", Cond.fieldLink RX4 13 "LoopSorter" "trayCount" "I", Cond.methodLink RX4 166 yX4_passChute, Cond.instanceMethod yX4_passChute, Cond.selects RX4 yX4_passChute yX4_passChute, Cond.code yX4_passChute cX4_passChute 5 none, Cond.fieldLink RX4 170 "LoopSorter$Item" "chute" "I", Cond.fieldLink RX4 89 "LoopSorter$Item" "rounds" "I", Cond.fieldLink RX4 17 "LoopSorter" "roundsAllowed" "I", Cond.methodLink RX4 173 yX0_hasRoom, Cond.instanceMethod yX0_hasRoom, Cond.selects RX0 yX0_hasRoom yX0_hasRoom, Cond.initialized RX0]
def wsX4_passChutes_r2 : List Cond := [Cond.code yX0_hasRoom cX0_hasRoom 1 (some .boolean), Cond.fieldLink RX0 13 "LoopSorter$Chute" "isOverflow" "Z", Cond.fieldLink RX0 17 "LoopSorter$Chute" "heldShut" "Z", Cond.fieldLink RX0 20 "LoopSorter$Chute" "lying" "I", Cond.methodLink RX4 176 yX4_letOut, Cond.instanceMethod yX4_letOut, Cond.selects RX4 yX4_letOut yX4_letOut, Cond.code yX4_letOut cX4_letOut 3 none, Cond.fieldLink RX4 147 "LoopSorter" "carriedCount" "I", Cond.fieldLink RX4 102 "LoopSorter$Chute" "lying" "I", Cond.fieldLink RX4 183 "LoopSorter$Place" "OUT" "LLoopSorter$Place;", Cond.fieldLink RX4 83 "LoopSorter$Item" "outChute" "I", Cond.fieldLink RX4 153 "LoopSorter" "time" "I", Cond.fieldLink RX4 86 "LoopSorter$Item" "outTime" "I", Cond.fieldLink RX4 29 "LoopSorter" "gone" "[LLoopSorter$Item;", Cond.fieldLink RX4 77 "LoopSorter" "goneCount" "I", Cond.methodLink RX4 179 yX4_setTraysOf, Cond.instanceMethod yX4_setTraysOf, Cond.selects RX4 yX4_setTraysOf yX4_setTraysOf, Cond.code yX4_setTraysOf cX4_setTraysOf 3 none, Cond.fieldLink RX4 210 "LoopSorter$Item" "length" "I", Cond.methodLink RX4 213 yX4_trayBehind, Cond.instanceMethod yX4_trayBehind, Cond.selects RX4 yX4_trayBehind yX4_trayBehind]
def wsX4_passChutes_r3 : List Cond := [Cond.code yX4_trayBehind cX4_trayBehind 2 (some .int)]
def wsX4_passChutes : List Cond := .code yX4_passChutes cX4_passChutes 4 none :: ((wsX4_passChutes_r1 ++ (wsX4_passChutes_r2 ++ wsX4_passChutes_r3)) ++ wsX40 ++ wsX00 ++ wsX20)
def wsX4_nextInTurn : List Cond := .code yX4_nextInTurn cX4_nextInTurn 4 (some (.object "LoopSorter$Induct")) :: ([.fieldLink RX4 37 "LoopSorter" "inducts" "[LLoopSorter$Induct;", .fieldLink RX4 186 "LoopSorter$Induct" "hadTurn" "Z", .fieldLink RX4 130 "LoopSorter$Induct" "putOnCount" "J"] ++ wsX40 ++ wsX10)
def wsX4_isFreeFor : List Cond := .code yX4_isFreeFor cX4_isFreeFor 3 (some .boolean) :: ([.fieldLink RX4 22 "LoopSorter" "carriedBy" "[LLoopSorter$Item;", .fieldLink RX4 210 "LoopSorter$Item" "length" "I", .fieldLink RX4 13 "LoopSorter" "trayCount" "I", .methodLink RX4 213 yX4_trayBehind, .instanceMethod yX4_trayBehind, .selects RX4 yX4_trayBehind yX4_trayBehind, .initialized RX4, .code yX4_trayBehind cX4_trayBehind 2 (some .int)] ++ wsX40 ++ wsX20)
def wsX4_putFirstOn_r1 : List Cond := [Cond.fieldLink RX4 202 "LoopSorter$Induct" "position" "I", Cond.fieldLink RX4 130 "LoopSorter$Induct" "putOnCount" "J", Cond.fieldLink RX4 127 "LoopSorter$Item" "ownTray" "I", Cond.fieldLink RX4 119 "LoopSorter$Place" "CARRIED" "LLoopSorter$Place;", Cond.fieldLink RX4 115 "LoopSorter$Item" "place" "LLoopSorter$Place;", Cond.fieldLink RX4 147 "LoopSorter" "carriedCount" "I", Cond.methodLink RX4 198 yX1_first, Cond.instanceMethod yX1_first, Cond.selects RX1 yX1_first yX1_first, Cond.initialized RX1, Cond.code yX1_first cX1_first 1 (some (.object "LoopSorter$Item")), Cond.fieldLink RX1 19 "LoopSorter$Induct" "waiting" "I", Cond.fieldLink RX1 15 "LoopSorter$Induct" "row" "[LLoopSorter$Item;", Cond.methodLink RX4 162 yX4_trayAt, Cond.instanceMethod yX4_trayAt, Cond.selects RX4 yX4_trayAt yX4_trayAt, Cond.initialized RX4, Cond.code yX4_trayAt cX4_trayAt 3 (some .int), Cond.fieldLink RX4 144 "LoopSorter" "shift" "I", Cond.fieldLink RX4 13 "LoopSorter" "trayCount" "I", Cond.methodLink RX4 203 yX4_isFreeFor, Cond.instanceMethod yX4_isFreeFor, Cond.selects RX4 yX4_isFreeFor yX4_isFreeFor, Cond.code yX4_isFreeFor cX4_isFreeFor 3 (some .boolean)]
def wsX4_putFirstOn_r2 : List Cond := [Cond.fieldLink RX4 22 "LoopSorter" "carriedBy" "[LLoopSorter$Item;", Cond.fieldLink RX4 210 "LoopSorter$Item" "length" "I", Cond.methodLink RX4 213 yX4_trayBehind, Cond.instanceMethod yX4_trayBehind, Cond.selects RX4 yX4_trayBehind yX4_trayBehind, Cond.code yX4_trayBehind cX4_trayBehind 2 (some .int), Cond.methodLink RX4 207 yX1_removeFirst, Cond.instanceMethod yX1_removeFirst, Cond.selects RX1 yX1_removeFirst yX1_removeFirst, Cond.code yX1_removeFirst cX1_removeFirst 2 none, Cond.methodLink RX4 179 yX4_setTraysOf, Cond.instanceMethod yX4_setTraysOf, Cond.selects RX4 yX4_setTraysOf yX4_setTraysOf, Cond.code yX4_setTraysOf cX4_setTraysOf 3 none]
def wsX4_putFirstOn : List Cond := .code yX4_putFirstOn cX4_putFirstOn 4 none :: ((wsX4_putFirstOn_r1 ++ wsX4_putFirstOn_r2) ++ wsX10 ++ wsX20 ++ wsX40)
def wsX4_takeTurns_r1 : List Cond := [Cond.fieldLink RX4 37 "LoopSorter" "inducts" "[LLoopSorter$Induct;", Cond.fieldLink RX4 186 "LoopSorter$Induct" "hadTurn" "Z", Cond.methodLink RX4 190 yX4_nextInTurn, Cond.instanceMethod yX4_nextInTurn, Cond.selects RX4 yX4_nextInTurn yX4_nextInTurn, Cond.initialized RX4, Cond.code yX4_nextInTurn cX4_nextInTurn 4 (some (.object "LoopSorter$Induct")), Cond.fieldLink RX4 130 "LoopSorter$Induct" "putOnCount" "J", Cond.methodLink RX4 194 yX4_putFirstOn, Cond.instanceMethod yX4_putFirstOn, Cond.selects RX4 yX4_putFirstOn yX4_putFirstOn, Cond.code yX4_putFirstOn cX4_putFirstOn 4 none, Cond.fieldLink RX4 202 "LoopSorter$Induct" "position" "I", Cond.fieldLink RX4 127 "LoopSorter$Item" "ownTray" "I", Cond.fieldLink RX4 119 "LoopSorter$Place" "CARRIED" "LLoopSorter$Place;", Cond.fieldLink RX4 115 "LoopSorter$Item" "place" "LLoopSorter$Place;", Cond.fieldLink RX4 147 "LoopSorter" "carriedCount" "I", Cond.methodLink RX4 198 yX1_first, Cond.instanceMethod yX1_first, Cond.selects RX1 yX1_first yX1_first, Cond.initialized RX1, Cond.code yX1_first cX1_first 1 (some (.object "LoopSorter$Item")), Cond.fieldLink RX1 19 "LoopSorter$Induct" "waiting" "I", Cond.fieldLink RX1 15 "LoopSorter$Induct" "row" "[LLoopSorter$Item;"]
def wsX4_takeTurns_r2 : List Cond := [Cond.methodLink RX4 162 yX4_trayAt, Cond.instanceMethod yX4_trayAt, Cond.selects RX4 yX4_trayAt yX4_trayAt, Cond.code yX4_trayAt cX4_trayAt 3 (some .int), Cond.fieldLink RX4 144 "LoopSorter" "shift" "I", Cond.fieldLink RX4 13 "LoopSorter" "trayCount" "I", Cond.methodLink RX4 203 yX4_isFreeFor, Cond.instanceMethod yX4_isFreeFor, Cond.selects RX4 yX4_isFreeFor yX4_isFreeFor, Cond.code yX4_isFreeFor cX4_isFreeFor 3 (some .boolean), Cond.fieldLink RX4 22 "LoopSorter" "carriedBy" "[LLoopSorter$Item;", Cond.fieldLink RX4 210 "LoopSorter$Item" "length" "I", Cond.methodLink RX4 213 yX4_trayBehind, Cond.instanceMethod yX4_trayBehind, Cond.selects RX4 yX4_trayBehind yX4_trayBehind, Cond.code yX4_trayBehind cX4_trayBehind 2 (some .int), Cond.methodLink RX4 207 yX1_removeFirst, Cond.instanceMethod yX1_removeFirst, Cond.selects RX1 yX1_removeFirst yX1_removeFirst, Cond.code yX1_removeFirst cX1_removeFirst 2 none, Cond.methodLink RX4 179 yX4_setTraysOf, Cond.instanceMethod yX4_setTraysOf, Cond.selects RX4 yX4_setTraysOf yX4_setTraysOf, Cond.code yX4_setTraysOf cX4_setTraysOf 3 none]
def wsX4_takeTurns : List Cond := .code yX4_takeTurns cX4_takeTurns 3 none :: ((wsX4_takeTurns_r1 ++ wsX4_takeTurns_r2) ++ wsX40 ++ wsX10 ++ wsX20)
def wsX4_runOneStep_r1 : List Cond := [Cond.fieldLink RX4 32 "LoopSorter" "movesPerStep" "I", Cond.fieldLink RX4 144 "LoopSorter" "shift" "I", Cond.fieldLink RX4 13 "LoopSorter" "trayCount" "I", Cond.fieldLink RX4 147 "LoopSorter" "carriedCount" "I", Cond.fieldLink RX4 153 "LoopSorter" "time" "I", Cond.methodLink RX4 150 yX4_passChutes, Cond.instanceMethod yX4_passChutes, Cond.selects RX4 yX4_passChutes yX4_passChutes, Cond.initialized RX4, Cond.code yX4_passChutes cX4_passChutes 4 none, Cond.fieldLink RX4 46 "LoopSorter" "chutes" "[LLoopSorter$Chute;", Cond.fieldLink RX4 159 "LoopSorter$Chute" "position" "I", Cond.fieldLink RX4 22 "LoopSorter" "carriedBy" "[LLoopSorter$Item;", Cond.fieldLink RX4 127 "LoopSorter$Item" "ownTray" "I", Cond.fieldLink RX4 115 "LoopSorter$Item" "place" "LLoopSorter$Place;", Cond.fieldLink RX4 119 "LoopSorter$Place" "CARRIED" "LLoopSorter$Place;", Cond.methodLink RX4 162 yX4_trayAt, Cond.instanceMethod yX4_trayAt, Cond.selects RX4 yX4_trayAt yX4_trayAt, Cond.code yX4_trayAt cX4_trayAt 3 (some .int), Cond.methodLink RX4 166 yX4_passChute, Cond.instanceMethod yX4_passChute, Cond.selects RX4 yX4_passChute yX4_passChute, Cond.code yX4_passChute cX4_passChute 5 none]
def wsX4_runOneStep_r2 : List Cond := [Cond.fieldLink RX4 170 "LoopSorter$Item" "chute" "I", Cond.fieldLink RX4 89 "LoopSorter$Item" "rounds" "I", Cond.fieldLink RX4 17 "LoopSorter" "roundsAllowed" "I", Cond.methodLink RX4 173 yX0_hasRoom, Cond.instanceMethod yX0_hasRoom, Cond.selects RX0 yX0_hasRoom yX0_hasRoom, Cond.initialized RX0, Cond.code yX0_hasRoom cX0_hasRoom 1 (some .boolean), Cond.fieldLink RX0 13 "LoopSorter$Chute" "isOverflow" "Z", Cond.fieldLink RX0 17 "LoopSorter$Chute" "heldShut" "Z", Cond.fieldLink RX0 20 "LoopSorter$Chute" "lying" "I", Cond.methodLink RX4 176 yX4_letOut, Cond.instanceMethod yX4_letOut, Cond.selects RX4 yX4_letOut yX4_letOut, Cond.code yX4_letOut cX4_letOut 3 none, Cond.fieldLink RX4 102 "LoopSorter$Chute" "lying" "I", Cond.fieldLink RX4 183 "LoopSorter$Place" "OUT" "LLoopSorter$Place;", Cond.fieldLink RX4 83 "LoopSorter$Item" "outChute" "I", Cond.fieldLink RX4 86 "LoopSorter$Item" "outTime" "I", Cond.fieldLink RX4 29 "LoopSorter" "gone" "[LLoopSorter$Item;", Cond.fieldLink RX4 77 "LoopSorter" "goneCount" "I", Cond.methodLink RX4 179 yX4_setTraysOf, Cond.instanceMethod yX4_setTraysOf, Cond.selects RX4 yX4_setTraysOf yX4_setTraysOf]
def wsX4_runOneStep_r3 : List Cond := [Cond.code yX4_setTraysOf cX4_setTraysOf 3 none, Cond.fieldLink RX4 210 "LoopSorter$Item" "length" "I", Cond.methodLink RX4 213 yX4_trayBehind, Cond.instanceMethod yX4_trayBehind, Cond.selects RX4 yX4_trayBehind yX4_trayBehind, Cond.code yX4_trayBehind cX4_trayBehind 2 (some .int), Cond.methodLink RX4 156 yX4_takeTurns, Cond.instanceMethod yX4_takeTurns, Cond.selects RX4 yX4_takeTurns yX4_takeTurns, Cond.code yX4_takeTurns cX4_takeTurns 3 none, Cond.fieldLink RX4 37 "LoopSorter" "inducts" "[LLoopSorter$Induct;", Cond.fieldLink RX4 186 "LoopSorter$Induct" "hadTurn" "Z", Cond.methodLink RX4 190 yX4_nextInTurn, Cond.instanceMethod yX4_nextInTurn, Cond.selects RX4 yX4_nextInTurn yX4_nextInTurn, Cond.code yX4_nextInTurn cX4_nextInTurn 4 (some (.object "LoopSorter$Induct")), Cond.fieldLink RX4 130 "LoopSorter$Induct" "putOnCount" "J", Cond.methodLink RX4 194 yX4_putFirstOn, Cond.instanceMethod yX4_putFirstOn, Cond.selects RX4 yX4_putFirstOn yX4_putFirstOn, Cond.code yX4_putFirstOn cX4_putFirstOn 4 none, Cond.fieldLink RX4 202 "LoopSorter$Induct" "position" "I", Cond.methodLink RX4 198 yX1_first, Cond.instanceMethod yX1_first]
def wsX4_runOneStep_r4 : List Cond := [Cond.selects RX1 yX1_first yX1_first, Cond.initialized RX1, Cond.code yX1_first cX1_first 1 (some (.object "LoopSorter$Item")), Cond.fieldLink RX1 19 "LoopSorter$Induct" "waiting" "I", Cond.fieldLink RX1 15 "LoopSorter$Induct" "row" "[LLoopSorter$Item;", Cond.methodLink RX4 203 yX4_isFreeFor, Cond.instanceMethod yX4_isFreeFor, Cond.selects RX4 yX4_isFreeFor yX4_isFreeFor, Cond.code yX4_isFreeFor cX4_isFreeFor 3 (some .boolean), Cond.methodLink RX4 207 yX1_removeFirst, Cond.instanceMethod yX1_removeFirst, Cond.selects RX1 yX1_removeFirst yX1_removeFirst, Cond.code yX1_removeFirst cX1_removeFirst 2 none]
def wsX4_runOneStep : List Cond := .code yX4_runOneStep cX4_runOneStep 2 none :: ((wsX4_runOneStep_r1 ++ (wsX4_runOneStep_r2 ++ (wsX4_runOneStep_r3 ++ wsX4_runOneStep_r4))) ++ wsX40 ++ wsX00 ++ wsX20 ++ wsX10)
def wsX4_step_r1 : List Cond := [Cond.fieldLink RX4 77 "LoopSorter" "goneCount" "I", Cond.methodLink RX4 80 yX4_runOneStep, Cond.instanceMethod yX4_runOneStep, Cond.selects RX4 yX4_runOneStep yX4_runOneStep, Cond.initialized RX4, Cond.code yX4_runOneStep cX4_runOneStep 2 none, Cond.fieldLink RX4 32 "LoopSorter" "movesPerStep" "I", Cond.fieldLink RX4 144 "LoopSorter" "shift" "I", Cond.fieldLink RX4 13 "LoopSorter" "trayCount" "I", Cond.fieldLink RX4 147 "LoopSorter" "carriedCount" "I", Cond.fieldLink RX4 153 "LoopSorter" "time" "I", Cond.methodLink RX4 150 yX4_passChutes, Cond.instanceMethod yX4_passChutes, Cond.selects RX4 yX4_passChutes yX4_passChutes, Cond.code yX4_passChutes cX4_passChutes 4 none, Cond.fieldLink RX4 46 "LoopSorter" "chutes" "[LLoopSorter$Chute;", Cond.fieldLink RX4 159 "LoopSorter$Chute" "position" "I", Cond.fieldLink RX4 22 "LoopSorter" "carriedBy" "[LLoopSorter$Item;", Cond.fieldLink RX4 127 "LoopSorter$Item" "ownTray" "I", Cond.fieldLink RX4 115 "LoopSorter$Item" "place" "LLoopSorter$Place;", Cond.fieldLink RX4 119 "LoopSorter$Place" "CARRIED" "LLoopSorter$Place;", Cond.methodLink RX4 162 yX4_trayAt, Cond.instanceMethod yX4_trayAt, Cond.selects RX4 yX4_trayAt yX4_trayAt]
def wsX4_step_r2 : List Cond := [Cond.code yX4_trayAt cX4_trayAt 3 (some .int), Cond.methodLink RX4 166 yX4_passChute, Cond.instanceMethod yX4_passChute, Cond.selects RX4 yX4_passChute yX4_passChute, Cond.code yX4_passChute cX4_passChute 5 none, Cond.fieldLink RX4 170 "LoopSorter$Item" "chute" "I", Cond.fieldLink RX4 89 "LoopSorter$Item" "rounds" "I", Cond.fieldLink RX4 17 "LoopSorter" "roundsAllowed" "I", Cond.methodLink RX4 173 yX0_hasRoom, Cond.instanceMethod yX0_hasRoom, Cond.selects RX0 yX0_hasRoom yX0_hasRoom, Cond.initialized RX0, Cond.code yX0_hasRoom cX0_hasRoom 1 (some .boolean), Cond.fieldLink RX0 13 "LoopSorter$Chute" "isOverflow" "Z", Cond.fieldLink RX0 17 "LoopSorter$Chute" "heldShut" "Z", Cond.fieldLink RX0 20 "LoopSorter$Chute" "lying" "I", Cond.methodLink RX4 176 yX4_letOut, Cond.instanceMethod yX4_letOut, Cond.selects RX4 yX4_letOut yX4_letOut, Cond.code yX4_letOut cX4_letOut 3 none, Cond.fieldLink RX4 102 "LoopSorter$Chute" "lying" "I", Cond.fieldLink RX4 183 "LoopSorter$Place" "OUT" "LLoopSorter$Place;", Cond.fieldLink RX4 83 "LoopSorter$Item" "outChute" "I", Cond.fieldLink RX4 86 "LoopSorter$Item" "outTime" "I"]
def wsX4_step_r3 : List Cond := [Cond.fieldLink RX4 29 "LoopSorter" "gone" "[LLoopSorter$Item;", Cond.methodLink RX4 179 yX4_setTraysOf, Cond.instanceMethod yX4_setTraysOf, Cond.selects RX4 yX4_setTraysOf yX4_setTraysOf, Cond.code yX4_setTraysOf cX4_setTraysOf 3 none, Cond.fieldLink RX4 210 "LoopSorter$Item" "length" "I", Cond.methodLink RX4 213 yX4_trayBehind, Cond.instanceMethod yX4_trayBehind, Cond.selects RX4 yX4_trayBehind yX4_trayBehind, Cond.code yX4_trayBehind cX4_trayBehind 2 (some .int), Cond.methodLink RX4 156 yX4_takeTurns, Cond.instanceMethod yX4_takeTurns, Cond.selects RX4 yX4_takeTurns yX4_takeTurns, Cond.code yX4_takeTurns cX4_takeTurns 3 none, Cond.fieldLink RX4 37 "LoopSorter" "inducts" "[LLoopSorter$Induct;", Cond.fieldLink RX4 186 "LoopSorter$Induct" "hadTurn" "Z", Cond.methodLink RX4 190 yX4_nextInTurn, Cond.instanceMethod yX4_nextInTurn, Cond.selects RX4 yX4_nextInTurn yX4_nextInTurn, Cond.code yX4_nextInTurn cX4_nextInTurn 4 (some (.object "LoopSorter$Induct")), Cond.fieldLink RX4 130 "LoopSorter$Induct" "putOnCount" "J", Cond.methodLink RX4 194 yX4_putFirstOn, Cond.instanceMethod yX4_putFirstOn, Cond.selects RX4 yX4_putFirstOn yX4_putFirstOn]
def wsX4_step_r4 : List Cond := [Cond.code yX4_putFirstOn cX4_putFirstOn 4 none, Cond.fieldLink RX4 202 "LoopSorter$Induct" "position" "I", Cond.methodLink RX4 198 yX1_first, Cond.instanceMethod yX1_first, Cond.selects RX1 yX1_first yX1_first, Cond.initialized RX1, Cond.code yX1_first cX1_first 1 (some (.object "LoopSorter$Item")), Cond.fieldLink RX1 19 "LoopSorter$Induct" "waiting" "I", Cond.fieldLink RX1 15 "LoopSorter$Induct" "row" "[LLoopSorter$Item;", Cond.methodLink RX4 203 yX4_isFreeFor, Cond.instanceMethod yX4_isFreeFor, Cond.selects RX4 yX4_isFreeFor yX4_isFreeFor, Cond.code yX4_isFreeFor cX4_isFreeFor 3 (some .boolean), Cond.methodLink RX4 207 yX1_removeFirst, Cond.instanceMethod yX1_removeFirst, Cond.selects RX1 yX1_removeFirst yX1_removeFirst, Cond.code yX1_removeFirst cX1_removeFirst 2 none]
def wsX4_step : List Cond := .code yX4_step cX4_step 4 (some .int) :: ((wsX4_step_r1 ++ (wsX4_step_r2 ++ (wsX4_step_r3 ++ wsX4_step_r4))) ++ wsX40 ++ wsX00 ++ wsX20 ++ wsX10)
def wsX4_out : List Cond := .code yX4_out cX4_out 4 (some .int) :: ([.fieldLink RX4 77 "LoopSorter" "goneCount" "I", .fieldLink RX4 29 "LoopSorter" "gone" "[LLoopSorter$Item;", .fieldLink RX4 74 "LoopSorter$Item" "number" "I", .fieldLink RX4 83 "LoopSorter$Item" "outChute" "I", .fieldLink RX4 86 "LoopSorter$Item" "outTime" "I", .fieldLink RX4 89 "LoopSorter$Item" "rounds" "I"] ++ wsX40 ++ wsX20)
def wsX4_isTray : List Cond := .code yX4_isTray cX4_isTray 2 (some .boolean) :: ([.fieldLink RX4 13 "LoopSorter" "trayCount" "I"] ++ wsX40)
def wsX4_tray : List Cond := .code yX4_tray cX4_tray 3 (some .int) :: ([.classLink RX4 95 RJx00060, .instantiable RJx00060 6, .initialized RJx00060, .fieldLink RX4 22 "LoopSorter" "carriedBy" "[LLoopSorter$Item;", .fieldLink RX4 74 "LoopSorter$Item" "number" "I", .methodLink RX4 92 yX4_isTray, .instanceMethod yX4_isTray, .selects RX4 yX4_isTray yX4_isTray, .initialized RX4, .code yX4_isTray cX4_isTray 2 (some .boolean), .fieldLink RX4 13 "LoopSorter" "trayCount" "I"] ++ wsJx000600 ++ wsX40 ++ wsX20)
def wsX4_full : List Cond := .code yX4_full cX4_full 4 (some .int) :: ([.fieldLink RX4 46 "LoopSorter" "chutes" "[LLoopSorter$Chute;", .fieldLink RX4 102 "LoopSorter$Chute" "lying" "I", .methodLink RX4 57 yX4_isChute, .static yX4_isChute, .initialized RX4, .code yX4_isChute cX4_isChute 1 (some .boolean), .methodLink RX4 105 yX0_holdShut, .instanceMethod yX0_holdShut, .selects RX0 yX0_holdShut yX0_holdShut, .initialized RX0, .code yX0_holdShut cX0_holdShut 1 none, .fieldLink RX0 17 "LoopSorter$Chute" "heldShut" "Z", .methodLink RX4 108 yX0_empty, .instanceMethod yX0_empty, .selects RX0 yX0_empty yX0_empty, .code yX0_empty cX0_empty 1 none, .fieldLink RX0 20 "LoopSorter$Chute" "lying" "I"] ++ wsX40 ++ wsX00)
def wsX4_itemNumbered : List Cond := .code yX4_itemNumbered cX4_itemNumbered 2 (some (.object "LoopSorter$Item")) :: ([.fieldLink RX4 60 "LoopSorter" "itemCount" "I", .fieldLink RX4 26 "LoopSorter" "items" "[LLoopSorter$Item;"] ++ wsX40)
def wsX4_missed : List Cond := .code yX4_missed cX4_missed 3 (some .int) :: ([.fieldLink RX4 115 "LoopSorter$Item" "place" "LLoopSorter$Place;", .fieldLink RX4 119 "LoopSorter$Place" "CARRIED" "LLoopSorter$Place;", .fieldLink RX4 124 "LoopSorter$Place" "MISSED" "LLoopSorter$Place;", .fieldLink RX4 127 "LoopSorter$Item" "ownTray" "I", .methodLink RX4 111 yX4_itemNumbered, .instanceMethod yX4_itemNumbered, .selects RX4 yX4_itemNumbered yX4_itemNumbered, .initialized RX4, .code yX4_itemNumbered cX4_itemNumbered 2 (some (.object "LoopSorter$Item")), .fieldLink RX4 60 "LoopSorter" "itemCount" "I", .fieldLink RX4 26 "LoopSorter" "items" "[LLoopSorter$Item;"] ++ wsX20 ++ wsX40)
def wsX4_found : List Cond := .code yX4_found cX4_found 4 (some .int) :: ([.fieldLink RX4 115 "LoopSorter$Item" "place" "LLoopSorter$Place;", .fieldLink RX4 124 "LoopSorter$Place" "MISSED" "LLoopSorter$Place;", .classLink RX4 95 RJx00060, .instantiable RJx00060 6, .initialized RJx00060, .fieldLink RX4 127 "LoopSorter$Item" "ownTray" "I", .fieldLink RX4 119 "LoopSorter$Place" "CARRIED" "LLoopSorter$Place;", .methodLink RX4 111 yX4_itemNumbered, .instanceMethod yX4_itemNumbered, .selects RX4 yX4_itemNumbered yX4_itemNumbered, .initialized RX4, .code yX4_itemNumbered cX4_itemNumbered 2 (some (.object "LoopSorter$Item")), .fieldLink RX4 60 "LoopSorter" "itemCount" "I", .fieldLink RX4 26 "LoopSorter" "items" "[LLoopSorter$Item;", .methodLink RX4 92 yX4_isTray, .instanceMethod yX4_isTray, .selects RX4 yX4_isTray yX4_isTray, .code yX4_isTray cX4_isTray 2 (some .boolean), .fieldLink RX4 13 "LoopSorter" "trayCount" "I"] ++ wsX20 ++ wsJx000600 ++ wsX40)
def wsX4_speed : List Cond := .code yX4_speed cX4_speed 3 (some .int) :: ([.fieldLink RX4 32 "LoopSorter" "movesPerStep" "I"] ++ wsX40)
def wsX4_share : List Cond := .code yX4_share cX4_share 2 (some .long) :: ([.fieldLink RX4 37 "LoopSorter" "inducts" "[LLoopSorter$Induct;", .fieldLink RX4 130 "LoopSorter$Induct" "putOnCount" "J", .constantLong RX4 134 (-11), .methodLink RX4 53 yX4_isInduct, .static yX4_isInduct, .initialized RX4, .code yX4_isInduct cX4_isInduct 1 (some .boolean)] ++ wsX40 ++ wsX10)
def wsX4_round : List Cond := .code yX4_round cX4_round 3 (some .int) :: ([.fieldLink RX4 89 "LoopSorter$Item" "rounds" "I", .methodLink RX4 111 yX4_itemNumbered, .instanceMethod yX4_itemNumbered, .selects RX4 yX4_itemNumbered yX4_itemNumbered, .initialized RX4, .code yX4_itemNumbered cX4_itemNumbered 2 (some (.object "LoopSorter$Item")), .fieldLink RX4 60 "LoopSorter" "itemCount" "I", .fieldLink RX4 26 "LoopSorter" "items" "[LLoopSorter$Item;"] ++ wsX20 ++ wsX40)
def wsX5_init : List Cond := .code yX5_init cX5_init 4 none :: ([.methodLink RX5 1 objectInit, .instanceMethod objectInit, .code objectInit ⟨#[0xb1]⟩ 1 none, .arrayClass .int, .fieldLink RX5 7 "LoopSorterModel" "number" "[I", .fieldLink RX5 13 "LoopSorterModel" "load" "[I", .fieldLink RX5 16 "LoopSorterModel" "speed" "I", .fieldLink RX5 20 "LoopSorterModel" "length" "[I", .fieldLink RX5 23 "LoopSorterModel" "chute" "[I", .fieldLink RX5 26 "LoopSorterModel" "where" "[I", .fieldLink RX5 29 "LoopSorterModel" "own" "[I", .fieldLink RX5 32 "LoopSorterModel" "rounds" "[I", .fieldLink RX5 35 "LoopSorterModel" "at" "[I", .arrayClass .long, .fieldLink RX5 38 "LoopSorterModel" "shares" "[J", .fieldLink RX5 42 "LoopSorterModel" "lying" "[I", .arrayClass .boolean, .fieldLink RX5 45 "LoopSorterModel" "shut" "[Z", .fieldLink RX5 49 "LoopSorterModel" "goneItem" "[I", .fieldLink RX5 52 "LoopSorterModel" "goneChute" "[I", .fieldLink RX5 55 "LoopSorterModel" "goneTime" "[I", .fieldLink RX5 58 "LoopSorterModel" "had" "[Z", .fieldLink RX5 61 "LoopSorterModel" "trays" "I", .fieldLink RX5 64 "LoopSorterModel" "most" "I"] ++ wsX50)
def wsX5_thrown : List Cond := .code yX5_thrown cX5_thrown 1 (some .int) :: ([.fieldLink RX5 67 "LoopSorterModel" "thrown" "I"] ++ wsX50)
def wsX5_in : List Cond := .code yX5_in cX5_in 3 (some .boolean) :: ([])
def wsX5_waiting : List Cond := .code yX5_waiting cX5_waiting 4 (some .int) :: ([.fieldLink RX5 70 "LoopSorterModel" "items" "I", .fieldLink RX5 26 "LoopSorterModel" "where" "[I", .fieldLink RX5 35 "LoopSorterModel" "at" "[I"] ++ wsX50)
def wsX5_induct : List Cond := .code yX5_induct cX5_induct 4 (some .int) :: ([.fieldLink RX5 67 "LoopSorterModel" "thrown" "I", .fieldLink RX5 70 "LoopSorterModel" "items" "I", .fieldLink RX5 35 "LoopSorterModel" "at" "[I", .fieldLink RX5 20 "LoopSorterModel" "length" "[I", .fieldLink RX5 23 "LoopSorterModel" "chute" "[I", .methodLink RX5 73 yX5_in, .static yX5_in, .initialized RX5, .code yX5_in cX5_in 3 (some .boolean), .methodLink RX5 77 yX5_waiting, .instanceMethod yX5_waiting, .selects RX5 yX5_waiting yX5_waiting, .code yX5_waiting cX5_waiting 4 (some .int), .fieldLink RX5 26 "LoopSorterModel" "where" "[I"] ++ wsX50)
def wsX5_move : List Cond := .code yX5_move cX5_move 4 none :: ([.fieldLink RX5 7 "LoopSorterModel" "number" "[I", .fieldLink RX5 61 "LoopSorterModel" "trays" "I", .fieldLink RX5 13 "LoopSorterModel" "load" "[I"] ++ wsX50)
def wsX5_before : List Cond := .code yX5_before cX5_before 2 (some .int) :: ([.fieldLink RX5 61 "LoopSorterModel" "trays" "I"] ++ wsX50)
def wsX5_hasRoom : List Cond := .code yX5_hasRoom cX5_hasRoom 2 (some .boolean) :: ([.fieldLink RX5 45 "LoopSorterModel" "shut" "[Z", .fieldLink RX5 42 "LoopSorterModel" "lying" "[I"] ++ wsX50)
def wsX5_goOut : List Cond := .code yX5_goOut cX5_goOut 4 none :: ([.fieldLink RX5 13 "LoopSorterModel" "load" "[I", .fieldLink RX5 20 "LoopSorterModel" "length" "[I", .fieldLink RX5 26 "LoopSorterModel" "where" "[I", .fieldLink RX5 42 "LoopSorterModel" "lying" "[I", .fieldLink RX5 49 "LoopSorterModel" "goneItem" "[I", .fieldLink RX5 84 "LoopSorterModel" "gone" "I", .fieldLink RX5 52 "LoopSorterModel" "goneChute" "[I", .fieldLink RX5 55 "LoopSorterModel" "goneTime" "[I", .fieldLink RX5 87 "LoopSorterModel" "time" "I", .methodLink RX5 81 yX5_before, .instanceMethod yX5_before, .selects RX5 yX5_before yX5_before, .initialized RX5, .code yX5_before cX5_before 2 (some .int), .fieldLink RX5 61 "LoopSorterModel" "trays" "I"] ++ wsX50)
def wsX5_passChute_r1 : List Cond := [Cond.fieldLink RX5 61 "LoopSorterModel" "trays" "I", Cond.fieldLink RX5 13 "LoopSorterModel" "load" "[I", Cond.fieldLink RX5 29 "LoopSorterModel" "own" "[I", Cond.fieldLink RX5 7 "LoopSorterModel" "number" "[I", Cond.fieldLink RX5 26 "LoopSorterModel" "where" "[I", Cond.fieldLink RX5 23 "LoopSorterModel" "chute" "[I", Cond.fieldLink RX5 32 "LoopSorterModel" "rounds" "[I", Cond.fieldLink RX5 64 "LoopSorterModel" "most" "I", Cond.methodLink RX5 90 yX5_hasRoom, Cond.instanceMethod yX5_hasRoom, Cond.selects RX5 yX5_hasRoom yX5_hasRoom, Cond.initialized RX5, Cond.code yX5_hasRoom cX5_hasRoom 2 (some .boolean), Cond.fieldLink RX5 45 "LoopSorterModel" "shut" "[Z", Cond.fieldLink RX5 42 "LoopSorterModel" "lying" "[I", Cond.methodLink RX5 94 yX5_goOut, Cond.instanceMethod yX5_goOut, Cond.selects RX5 yX5_goOut yX5_goOut, Cond.code yX5_goOut cX5_goOut 4 none, Cond.fieldLink RX5 20 "LoopSorterModel" "length" "[I", Cond.fieldLink RX5 49 "LoopSorterModel" "goneItem" "[I", Cond.fieldLink RX5 84 "LoopSorterModel" "gone" "I", Cond.fieldLink RX5 52 "LoopSorterModel" "goneChute" "[I", Cond.fieldLink RX5 55 "LoopSorterModel" "goneTime" "[I"]
def wsX5_passChute_r2 : List Cond := [Cond.fieldLink RX5 87 "LoopSorterModel" "time" "I", Cond.methodLink RX5 81 yX5_before, Cond.instanceMethod yX5_before, Cond.selects RX5 yX5_before yX5_before, Cond.code yX5_before cX5_before 2 (some .int)]
def wsX5_passChute : List Cond := .code yX5_passChute cX5_passChute 5 none :: ((wsX5_passChute_r1 ++ wsX5_passChute_r2) ++ wsX50)
def wsX5_firstWaiting : List Cond := .code yX5_firstWaiting cX5_firstWaiting 4 (some .int) :: ([.fieldLink RX5 70 "LoopSorterModel" "items" "I", .fieldLink RX5 26 "LoopSorterModel" "where" "[I", .fieldLink RX5 35 "LoopSorterModel" "at" "[I"] ++ wsX50)
def wsX5_putOn : List Cond := .code yX5_putOn cX5_putOn 4 none :: ([.fieldLink RX5 61 "LoopSorterModel" "trays" "I", .fieldLink RX5 13 "LoopSorterModel" "load" "[I", .fieldLink RX5 20 "LoopSorterModel" "length" "[I", .fieldLink RX5 29 "LoopSorterModel" "own" "[I", .fieldLink RX5 7 "LoopSorterModel" "number" "[I", .fieldLink RX5 26 "LoopSorterModel" "where" "[I", .fieldLink RX5 38 "LoopSorterModel" "shares" "[J", .methodLink RX5 98 yX5_firstWaiting, .instanceMethod yX5_firstWaiting, .selects RX5 yX5_firstWaiting yX5_firstWaiting, .initialized RX5, .code yX5_firstWaiting cX5_firstWaiting 4 (some .int), .fieldLink RX5 70 "LoopSorterModel" "items" "I", .fieldLink RX5 35 "LoopSorterModel" "at" "[I", .methodLink RX5 81 yX5_before, .instanceMethod yX5_before, .selects RX5 yX5_before yX5_before, .code yX5_before cX5_before 2 (some .int)] ++ wsX50)
def wsX5_turns : List Cond := .code yX5_turns cX5_turns 4 none :: ([.fieldLink RX5 58 "LoopSorterModel" "had" "[Z", .fieldLink RX5 38 "LoopSorterModel" "shares" "[J", .methodLink RX5 101 yX5_putOn, .instanceMethod yX5_putOn, .selects RX5 yX5_putOn yX5_putOn, .initialized RX5, .code yX5_putOn cX5_putOn 4 none, .fieldLink RX5 61 "LoopSorterModel" "trays" "I", .fieldLink RX5 13 "LoopSorterModel" "load" "[I", .fieldLink RX5 20 "LoopSorterModel" "length" "[I", .fieldLink RX5 29 "LoopSorterModel" "own" "[I", .fieldLink RX5 7 "LoopSorterModel" "number" "[I", .fieldLink RX5 26 "LoopSorterModel" "where" "[I", .methodLink RX5 98 yX5_firstWaiting, .instanceMethod yX5_firstWaiting, .selects RX5 yX5_firstWaiting yX5_firstWaiting, .code yX5_firstWaiting cX5_firstWaiting 4 (some .int), .fieldLink RX5 70 "LoopSorterModel" "items" "I", .fieldLink RX5 35 "LoopSorterModel" "at" "[I", .methodLink RX5 81 yX5_before, .instanceMethod yX5_before, .selects RX5 yX5_before yX5_before, .code yX5_before cX5_before 2 (some .int)] ++ wsX50)
def wsX5_step_r1 : List Cond := [Cond.fieldLink RX5 67 "LoopSorterModel" "thrown" "I", Cond.fieldLink RX5 84 "LoopSorterModel" "gone" "I", Cond.fieldLink RX5 16 "LoopSorterModel" "speed" "I", Cond.fieldLink RX5 87 "LoopSorterModel" "time" "I", Cond.methodLink RX5 73 yX5_in, Cond.static yX5_in, Cond.initialized RX5, Cond.code yX5_in cX5_in 3 (some .boolean), Cond.methodLink RX5 105 yX5_move, Cond.instanceMethod yX5_move, Cond.selects RX5 yX5_move yX5_move, Cond.code yX5_move cX5_move 4 none, Cond.fieldLink RX5 7 "LoopSorterModel" "number" "[I", Cond.fieldLink RX5 61 "LoopSorterModel" "trays" "I", Cond.fieldLink RX5 13 "LoopSorterModel" "load" "[I", Cond.methodLink RX5 108 yX5_passChute, Cond.instanceMethod yX5_passChute, Cond.selects RX5 yX5_passChute yX5_passChute, Cond.code yX5_passChute cX5_passChute 5 none, Cond.fieldLink RX5 29 "LoopSorterModel" "own" "[I", Cond.fieldLink RX5 26 "LoopSorterModel" "where" "[I", Cond.fieldLink RX5 23 "LoopSorterModel" "chute" "[I", Cond.fieldLink RX5 32 "LoopSorterModel" "rounds" "[I", Cond.fieldLink RX5 64 "LoopSorterModel" "most" "I"]
def wsX5_step_r2 : List Cond := [Cond.methodLink RX5 90 yX5_hasRoom, Cond.instanceMethod yX5_hasRoom, Cond.selects RX5 yX5_hasRoom yX5_hasRoom, Cond.code yX5_hasRoom cX5_hasRoom 2 (some .boolean), Cond.fieldLink RX5 45 "LoopSorterModel" "shut" "[Z", Cond.fieldLink RX5 42 "LoopSorterModel" "lying" "[I", Cond.methodLink RX5 94 yX5_goOut, Cond.instanceMethod yX5_goOut, Cond.selects RX5 yX5_goOut yX5_goOut, Cond.code yX5_goOut cX5_goOut 4 none, Cond.fieldLink RX5 20 "LoopSorterModel" "length" "[I", Cond.fieldLink RX5 49 "LoopSorterModel" "goneItem" "[I", Cond.fieldLink RX5 52 "LoopSorterModel" "goneChute" "[I", Cond.fieldLink RX5 55 "LoopSorterModel" "goneTime" "[I", Cond.methodLink RX5 81 yX5_before, Cond.instanceMethod yX5_before, Cond.selects RX5 yX5_before yX5_before, Cond.code yX5_before cX5_before 2 (some .int), Cond.methodLink RX5 111 yX5_turns, Cond.instanceMethod yX5_turns, Cond.selects RX5 yX5_turns yX5_turns, Cond.code yX5_turns cX5_turns 4 none, Cond.fieldLink RX5 58 "LoopSorterModel" "had" "[Z", Cond.fieldLink RX5 38 "LoopSorterModel" "shares" "[J"]
def wsX5_step_r3 : List Cond := [Cond.methodLink RX5 101 yX5_putOn, Cond.instanceMethod yX5_putOn, Cond.selects RX5 yX5_putOn yX5_putOn, Cond.code yX5_putOn cX5_putOn 4 none, Cond.methodLink RX5 98 yX5_firstWaiting, Cond.instanceMethod yX5_firstWaiting, Cond.selects RX5 yX5_firstWaiting yX5_firstWaiting, Cond.code yX5_firstWaiting cX5_firstWaiting 4 (some .int), Cond.fieldLink RX5 70 "LoopSorterModel" "items" "I", Cond.fieldLink RX5 35 "LoopSorterModel" "at" "[I"]
def wsX5_step : List Cond := .code yX5_step cX5_step 6 (some .int) :: ((wsX5_step_r1 ++ (wsX5_step_r2 ++ wsX5_step_r3)) ++ wsX50)
def wsX5_out : List Cond := .code yX5_out cX5_out 3 (some .int) :: ([.fieldLink RX5 67 "LoopSorterModel" "thrown" "I", .fieldLink RX5 84 "LoopSorterModel" "gone" "I", .fieldLink RX5 49 "LoopSorterModel" "goneItem" "[I", .fieldLink RX5 52 "LoopSorterModel" "goneChute" "[I", .fieldLink RX5 55 "LoopSorterModel" "goneTime" "[I", .fieldLink RX5 32 "LoopSorterModel" "rounds" "[I", .methodLink RX5 73 yX5_in, .static yX5_in, .initialized RX5, .code yX5_in cX5_in 3 (some .boolean)] ++ wsX50)
def wsX5_itemOn : List Cond := .code yX5_itemOn cX5_itemOn 4 (some .int) :: ([.fieldLink RX5 61 "LoopSorterModel" "trays" "I", .fieldLink RX5 7 "LoopSorterModel" "number" "[I", .fieldLink RX5 13 "LoopSorterModel" "load" "[I"] ++ wsX50)
def wsX5_tray : List Cond := .code yX5_tray cX5_tray 2 (some .int) :: ([.fieldLink RX5 61 "LoopSorterModel" "trays" "I", .fieldLink RX5 67 "LoopSorterModel" "thrown" "I", .methodLink RX5 73 yX5_in, .static yX5_in, .initialized RX5, .code yX5_in cX5_in 3 (some .boolean), .methodLink RX5 114 yX5_itemOn, .instanceMethod yX5_itemOn, .selects RX5 yX5_itemOn yX5_itemOn, .code yX5_itemOn cX5_itemOn 4 (some .int), .fieldLink RX5 7 "LoopSorterModel" "number" "[I", .fieldLink RX5 13 "LoopSorterModel" "load" "[I"] ++ wsX50)
def wsX5_full : List Cond := .code yX5_full cX5_full 4 (some .int) :: ([.fieldLink RX5 67 "LoopSorterModel" "thrown" "I", .fieldLink RX5 42 "LoopSorterModel" "lying" "[I", .fieldLink RX5 45 "LoopSorterModel" "shut" "[Z", .methodLink RX5 73 yX5_in, .static yX5_in, .initialized RX5, .code yX5_in cX5_in 3 (some .boolean)] ++ wsX50)
def wsX5_isItem : List Cond := .code yX5_isItem cX5_isItem 2 (some .boolean) :: ([.fieldLink RX5 70 "LoopSorterModel" "items" "I", .methodLink RX5 73 yX5_in, .static yX5_in, .initialized RX5, .code yX5_in cX5_in 3 (some .boolean)] ++ wsX50)
def wsX5_missed : List Cond := .code yX5_missed cX5_missed 2 (some .int) :: ([.fieldLink RX5 67 "LoopSorterModel" "thrown" "I", .fieldLink RX5 26 "LoopSorterModel" "where" "[I", .fieldLink RX5 29 "LoopSorterModel" "own" "[I", .methodLink RX5 117 yX5_isItem, .instanceMethod yX5_isItem, .selects RX5 yX5_isItem yX5_isItem, .initialized RX5, .code yX5_isItem cX5_isItem 2 (some .boolean), .fieldLink RX5 70 "LoopSorterModel" "items" "I", .methodLink RX5 73 yX5_in, .static yX5_in, .code yX5_in cX5_in 3 (some .boolean)] ++ wsX50)
def wsX5_found : List Cond := .code yX5_found cX5_found 3 (some .int) :: ([.fieldLink RX5 67 "LoopSorterModel" "thrown" "I", .fieldLink RX5 26 "LoopSorterModel" "where" "[I", .fieldLink RX5 61 "LoopSorterModel" "trays" "I", .fieldLink RX5 29 "LoopSorterModel" "own" "[I", .methodLink RX5 117 yX5_isItem, .instanceMethod yX5_isItem, .selects RX5 yX5_isItem yX5_isItem, .initialized RX5, .code yX5_isItem cX5_isItem 2 (some .boolean), .fieldLink RX5 70 "LoopSorterModel" "items" "I", .methodLink RX5 73 yX5_in, .static yX5_in, .code yX5_in cX5_in 3 (some .boolean)] ++ wsX50)
def wsX5_speed : List Cond := .code yX5_speed cX5_speed 3 (some .int) :: ([.fieldLink RX5 67 "LoopSorterModel" "thrown" "I", .fieldLink RX5 16 "LoopSorterModel" "speed" "I", .methodLink RX5 73 yX5_in, .static yX5_in, .initialized RX5, .code yX5_in cX5_in 3 (some .boolean)] ++ wsX50)
def wsX5_share : List Cond := .code yX5_share cX5_share 2 (some .long) :: ([.fieldLink RX5 67 "LoopSorterModel" "thrown" "I", .fieldLink RX5 38 "LoopSorterModel" "shares" "[J", .constantLong RX5 120 (-11), .methodLink RX5 73 yX5_in, .static yX5_in, .initialized RX5, .code yX5_in cX5_in 3 (some .boolean)] ++ wsX50)
def wsX5_round : List Cond := .code yX5_round cX5_round 2 (some .int) :: ([.fieldLink RX5 67 "LoopSorterModel" "thrown" "I", .fieldLink RX5 32 "LoopSorterModel" "rounds" "[I", .methodLink RX5 117 yX5_isItem, .instanceMethod yX5_isItem, .selects RX5 yX5_isItem yX5_isItem, .initialized RX5, .code yX5_isItem cX5_isItem 2 (some .boolean), .fieldLink RX5 70 "LoopSorterModel" "items" "I", .methodLink RX5 73 yX5_in, .static yX5_in, .code yX5_in cX5_in 3 (some .boolean)] ++ wsX50)
def wsJx00060_init_a7421 : List Cond := .code yJx00060_init_a7421 cJx00060_init_a7421 2 none :: ([])
def wsJ9_max_7cf53 : List Cond := .code yJ9_max_7cf53 cJ9_max_7cf53 2 (some .int) :: ([])
def wsJ9_min_7cf53 : List Cond := .code yJ9_min_7cf53 cJ9_min_7cf53 2 (some .int) :: ([])
def wsL_cell : List Cond := .code yL_cell cL_cell 2 (some .int) :: ([])
def wsL_tray : List Cond := .codeWith yL_tray cL_tray 4 (some .int) [(0, 9, 12, 13)] :: ([.methodLink RL 7 yX4_tray, .instanceMethod yX4_tray, .selects RX4 yX4_tray yX4_tray, .initialized RX4, .code yX4_tray cX4_tray 3 (some .int), .classLink RX4 95 RJx00060, .instantiable RJx00060 6, .initialized RJx00060, .fieldLink RX4 22 "LoopSorter" "carriedBy" "[LLoopSorter$Item;", .fieldLink RX4 74 "LoopSorter$Item" "number" "I", .methodLink RX4 92 yX4_isTray, .instanceMethod yX4_isTray, .selects RX4 yX4_isTray yX4_isTray, .code yX4_isTray cX4_isTray 2 (some .boolean), .fieldLink RX4 13 "LoopSorter" "trayCount" "I"] ++ wsJx000600 ++ wsX40 ++ wsX20)
def wsL_found : List Cond := .codeWith yL_found cL_found 5 (some .int) [(0, 10, 13, 13)] :: ([.methodLink RL 15 yX4_found, .instanceMethod yX4_found, .selects RX4 yX4_found yX4_found, .initialized RX4, .code yX4_found cX4_found 4 (some .int), .fieldLink RX4 115 "LoopSorter$Item" "place" "LLoopSorter$Place;", .fieldLink RX4 124 "LoopSorter$Place" "MISSED" "LLoopSorter$Place;", .classLink RX4 95 RJx00060, .instantiable RJx00060 6, .initialized RJx00060, .fieldLink RX4 127 "LoopSorter$Item" "ownTray" "I", .fieldLink RX4 119 "LoopSorter$Place" "CARRIED" "LLoopSorter$Place;", .methodLink RX4 111 yX4_itemNumbered, .instanceMethod yX4_itemNumbered, .selects RX4 yX4_itemNumbered yX4_itemNumbered, .code yX4_itemNumbered cX4_itemNumbered 2 (some (.object "LoopSorter$Item")), .fieldLink RX4 60 "LoopSorter" "itemCount" "I", .fieldLink RX4 26 "LoopSorter" "items" "[LLoopSorter$Item;", .methodLink RX4 92 yX4_isTray, .instanceMethod yX4_isTray, .selects RX4 yX4_isTray yX4_isTray, .code yX4_isTray cX4_isTray 2 (some .boolean), .fieldLink RX4 13 "LoopSorter" "trayCount" "I"] ++ wsX20 ++ wsJx000600 ++ wsX40)
def wsL_law_r1 : List Cond := [Cond.classLink RL 8 RX4, Cond.instantiable RX4 13, Cond.initialized RX4, Cond.classLink RL 28 RX5, Cond.instantiable RX5 22, Cond.initialized RX5, Cond.arrayClass .long, Cond.methodLink RL 19 yL_cell, Cond.static yL_cell, Cond.initialized RL, Cond.code yL_cell cL_cell 2 (some .int), Cond.methodLink RL 25 yX4_init, Cond.instanceMethod yX4_init, Cond.code yX4_init cX4_init 4 none, Cond.methodLink RX4 1 objectInit, Cond.instanceMethod objectInit, Cond.code objectInit ⟨#[0xb1]⟩ 1 none, Cond.fieldLink RX4 13 "LoopSorter" "trayCount" "I", Cond.fieldLink RX4 17 "LoopSorter" "roundsAllowed" "I", Cond.classLink RX4 20 RX2, Cond.fieldLink RX4 22 "LoopSorter" "carriedBy" "[LLoopSorter$Item;", Cond.fieldLink RX4 26 "LoopSorter" "items" "[LLoopSorter$Item;", Cond.fieldLink RX4 29 "LoopSorter" "gone" "[LLoopSorter$Item;", Cond.fieldLink RX4 32 "LoopSorter" "movesPerStep" "I"]
def wsL_law_r2 : List Cond := [Cond.classLink RX4 35 RX1, Cond.fieldLink RX4 37 "LoopSorter" "inducts" "[LLoopSorter$Induct;", Cond.instantiable RX1 5, Cond.initialized RX1, Cond.classLink RX4 44 RX0, Cond.fieldLink RX4 46 "LoopSorter" "chutes" "[LLoopSorter$Chute;", Cond.instantiable RX0 4, Cond.initialized RX0, Cond.methodLink RX4 9 yX4_bringWithin, Cond.static yX4_bringWithin, Cond.code yX4_bringWithin cX4_bringWithin 2 (some .int), Cond.methodLink RX4 136 Lib.Math.min.name, Cond.static Lib.Math.min.name, Cond.initialized "java/lang/Math", Cond.code Lib.Math.min.name Lib.Math.min.code 2 (some .int), Cond.methodLink RX4 141 Lib.Math.max.name, Cond.static Lib.Math.max.name, Cond.code Lib.Math.max.name Lib.Math.max.code 2 (some .int), Cond.methodLink RX4 41 yX1_init, Cond.instanceMethod yX1_init, Cond.code yX1_init cX1_init 2 none, Cond.methodLink RX1 1 objectInit, Cond.fieldLink RX1 7 "LoopSorter$Induct" "position" "I", Cond.classLink RX1 13 RX2]
def wsL_law_r3 : List Cond := [Cond.fieldLink RX1 15 "LoopSorter$Induct" "row" "[LLoopSorter$Item;", Cond.methodLink RX4 50 yX0_init, Cond.instanceMethod yX0_init, Cond.code yX0_init cX0_init 3 none, Cond.methodLink RX0 1 objectInit, Cond.fieldLink RX0 7 "LoopSorter$Chute" "position" "I", Cond.fieldLink RX0 13 "LoopSorter$Chute" "isOverflow" "Z", Cond.methodLink RL 30 yX5_init, Cond.instanceMethod yX5_init, Cond.code yX5_init cX5_init 4 none, Cond.methodLink RX5 1 objectInit, Cond.arrayClass .int, Cond.fieldLink RX5 7 "LoopSorterModel" "number" "[I", Cond.fieldLink RX5 13 "LoopSorterModel" "load" "[I", Cond.fieldLink RX5 16 "LoopSorterModel" "speed" "I", Cond.fieldLink RX5 20 "LoopSorterModel" "length" "[I", Cond.fieldLink RX5 23 "LoopSorterModel" "chute" "[I", Cond.fieldLink RX5 26 "LoopSorterModel" "where" "[I", Cond.fieldLink RX5 29 "LoopSorterModel" "own" "[I", Cond.fieldLink RX5 32 "LoopSorterModel" "rounds" "[I", Cond.fieldLink RX5 35 "LoopSorterModel" "at" "[I", Cond.fieldLink RX5 38 "LoopSorterModel" "shares" "[J", Cond.fieldLink RX5 42 "LoopSorterModel" "lying" "[I", Cond.arrayClass .boolean]
def wsL_law_r4 : List Cond := [Cond.fieldLink RX5 45 "LoopSorterModel" "shut" "[Z", Cond.fieldLink RX5 49 "LoopSorterModel" "goneItem" "[I", Cond.fieldLink RX5 52 "LoopSorterModel" "goneChute" "[I", Cond.fieldLink RX5 55 "LoopSorterModel" "goneTime" "[I", Cond.fieldLink RX5 58 "LoopSorterModel" "had" "[Z", Cond.fieldLink RX5 61 "LoopSorterModel" "trays" "I", Cond.fieldLink RX5 64 "LoopSorterModel" "most" "I", Cond.methodLink RL 31 yX4_induct, Cond.instanceMethod yX4_induct, Cond.selects RX4 yX4_induct yX4_induct, Cond.code yX4_induct cX4_induct 5 (some .int), Cond.fieldLink RX4 60 "LoopSorter" "itemCount" "I", Cond.instantiable RX2 8, Cond.initialized RX2, Cond.fieldLink RX4 74 "LoopSorter$Item" "number" "I", Cond.methodLink RX4 53 yX4_isInduct, Cond.static yX4_isInduct, Cond.code yX4_isInduct cX4_isInduct 1 (some .boolean), Cond.methodLink RX4 57 yX4_isChute, Cond.static yX4_isChute, Cond.code yX4_isChute cX4_isChute 1 (some .boolean), Cond.methodLink RX4 63 yX1_isRowFull, Cond.instanceMethod yX1_isRowFull, Cond.selects RX1 yX1_isRowFull yX1_isRowFull]
def wsL_law_r5 : List Cond := [Cond.code yX1_isRowFull cX1_isRowFull 1 (some .boolean), Cond.fieldLink RX1 19 "LoopSorter$Induct" "waiting" "I", Cond.methodLink RX4 67 yX2_init, Cond.instanceMethod yX2_init, Cond.code yX2_init cX2_init 4 none, Cond.methodLink RX2 1 objectInit, Cond.fieldLink RX2 7 "LoopSorter$Item" "number" "I", Cond.fieldLink RX2 13 "LoopSorter$Item" "length" "I", Cond.fieldLink RX2 16 "LoopSorter$Item" "chute" "I", Cond.fieldLink RX2 19 "LoopSorter$Place" "WAITING" "LLoopSorter$Place;", Cond.fieldLink RX2 25 "LoopSorter$Item" "place" "LLoopSorter$Place;", Cond.methodLink RX4 70 yX1_addLast, Cond.instanceMethod yX1_addLast, Cond.selects RX1 yX1_addLast yX1_addLast, Cond.code yX1_addLast cX1_addLast 2 none, Cond.methodLink RX1 22 yX1_isRowFull, Cond.methodLink RL 35 yX5_induct, Cond.instanceMethod yX5_induct, Cond.selects RX5 yX5_induct yX5_induct, Cond.code yX5_induct cX5_induct 4 (some .int), Cond.fieldLink RX5 67 "LoopSorterModel" "thrown" "I", Cond.fieldLink RX5 70 "LoopSorterModel" "items" "I", Cond.methodLink RX5 73 yX5_in, Cond.static yX5_in]
def wsL_law_r6 : List Cond := [Cond.code yX5_in cX5_in 3 (some .boolean), Cond.methodLink RX5 77 yX5_waiting, Cond.instanceMethod yX5_waiting, Cond.selects RX5 yX5_waiting yX5_waiting, Cond.code yX5_waiting cX5_waiting 4 (some .int), Cond.methodLink RL 36 yX4_step, Cond.instanceMethod yX4_step, Cond.selects RX4 yX4_step yX4_step, Cond.code yX4_step cX4_step 4 (some .int), Cond.fieldLink RX4 77 "LoopSorter" "goneCount" "I", Cond.methodLink RX4 80 yX4_runOneStep, Cond.instanceMethod yX4_runOneStep, Cond.selects RX4 yX4_runOneStep yX4_runOneStep, Cond.code yX4_runOneStep cX4_runOneStep 2 none, Cond.fieldLink RX4 144 "LoopSorter" "shift" "I", Cond.fieldLink RX4 147 "LoopSorter" "carriedCount" "I", Cond.fieldLink RX4 153 "LoopSorter" "time" "I", Cond.methodLink RX4 150 yX4_passChutes, Cond.instanceMethod yX4_passChutes, Cond.selects RX4 yX4_passChutes yX4_passChutes, Cond.code yX4_passChutes cX4_passChutes 4 none, Cond.fieldLink RX4 159 "LoopSorter$Chute" "position" "I", Cond.fieldLink RX4 127 "LoopSorter$Item" "ownTray" "I", Cond.fieldLink RX4 115 "LoopSorter$Item" "place" "LLoopSorter$Place;"]
def wsL_law_r7 : List Cond := [Cond.fieldLink RX4 119 "LoopSorter$Place" "CARRIED" "LLoopSorter$Place;", Cond.methodLink RX4 162 yX4_trayAt, Cond.instanceMethod yX4_trayAt, Cond.selects RX4 yX4_trayAt yX4_trayAt, Cond.code yX4_trayAt cX4_trayAt 3 (some .int), Cond.methodLink RX4 166 yX4_passChute, Cond.instanceMethod yX4_passChute, Cond.selects RX4 yX4_passChute yX4_passChute, Cond.code yX4_passChute cX4_passChute 5 none, Cond.fieldLink RX4 170 "LoopSorter$Item" "chute" "I", Cond.fieldLink RX4 89 "LoopSorter$Item" "rounds" "I", Cond.methodLink RX4 173 yX0_hasRoom, Cond.instanceMethod yX0_hasRoom, Cond.selects RX0 yX0_hasRoom yX0_hasRoom, Cond.code yX0_hasRoom cX0_hasRoom 1 (some .boolean), Cond.fieldLink RX0 17 "LoopSorter$Chute" "heldShut" "Z", Cond.fieldLink RX0 20 "LoopSorter$Chute" "lying" "I", Cond.methodLink RX4 176 yX4_letOut, Cond.instanceMethod yX4_letOut, Cond.selects RX4 yX4_letOut yX4_letOut, Cond.code yX4_letOut cX4_letOut 3 none, Cond.fieldLink RX4 102 "LoopSorter$Chute" "lying" "I", Cond.fieldLink RX4 183 "LoopSorter$Place" "OUT" "LLoopSorter$Place;", Cond.fieldLink RX4 83 "LoopSorter$Item" "outChute" "I"]
def wsL_law_r8 : List Cond := [Cond.fieldLink RX4 86 "LoopSorter$Item" "outTime" "I", Cond.methodLink RX4 179 yX4_setTraysOf, Cond.instanceMethod yX4_setTraysOf, Cond.selects RX4 yX4_setTraysOf yX4_setTraysOf, Cond.code yX4_setTraysOf cX4_setTraysOf 3 none, Cond.fieldLink RX4 210 "LoopSorter$Item" "length" "I", Cond.methodLink RX4 213 yX4_trayBehind, Cond.instanceMethod yX4_trayBehind, Cond.selects RX4 yX4_trayBehind yX4_trayBehind, Cond.code yX4_trayBehind cX4_trayBehind 2 (some .int), Cond.methodLink RX4 156 yX4_takeTurns, Cond.instanceMethod yX4_takeTurns, Cond.selects RX4 yX4_takeTurns yX4_takeTurns, Cond.code yX4_takeTurns cX4_takeTurns 3 none, Cond.fieldLink RX4 186 "LoopSorter$Induct" "hadTurn" "Z", Cond.methodLink RX4 190 yX4_nextInTurn, Cond.instanceMethod yX4_nextInTurn, Cond.selects RX4 yX4_nextInTurn yX4_nextInTurn, Cond.code yX4_nextInTurn cX4_nextInTurn 4 (some (.object "LoopSorter$Induct")), Cond.fieldLink RX4 130 "LoopSorter$Induct" "putOnCount" "J", Cond.methodLink RX4 194 yX4_putFirstOn, Cond.instanceMethod yX4_putFirstOn, Cond.selects RX4 yX4_putFirstOn yX4_putFirstOn, Cond.code yX4_putFirstOn cX4_putFirstOn 4 none]
def wsL_law_r9 : List Cond := [Cond.fieldLink RX4 202 "LoopSorter$Induct" "position" "I", Cond.methodLink RX4 198 yX1_first, Cond.instanceMethod yX1_first, Cond.selects RX1 yX1_first yX1_first, Cond.code yX1_first cX1_first 1 (some (.object "LoopSorter$Item")), Cond.methodLink RX4 203 yX4_isFreeFor, Cond.instanceMethod yX4_isFreeFor, Cond.selects RX4 yX4_isFreeFor yX4_isFreeFor, Cond.code yX4_isFreeFor cX4_isFreeFor 3 (some .boolean), Cond.methodLink RX4 207 yX1_removeFirst, Cond.instanceMethod yX1_removeFirst, Cond.selects RX1 yX1_removeFirst yX1_removeFirst, Cond.code yX1_removeFirst cX1_removeFirst 2 none, Cond.methodLink RL 39 yX5_step, Cond.instanceMethod yX5_step, Cond.selects RX5 yX5_step yX5_step, Cond.code yX5_step cX5_step 6 (some .int), Cond.fieldLink RX5 84 "LoopSorterModel" "gone" "I", Cond.fieldLink RX5 87 "LoopSorterModel" "time" "I", Cond.methodLink RX5 105 yX5_move, Cond.instanceMethod yX5_move, Cond.selects RX5 yX5_move yX5_move, Cond.code yX5_move cX5_move 4 none, Cond.methodLink RX5 108 yX5_passChute]
def wsL_law_r10 : List Cond := [Cond.instanceMethod yX5_passChute, Cond.selects RX5 yX5_passChute yX5_passChute, Cond.code yX5_passChute cX5_passChute 5 none, Cond.methodLink RX5 90 yX5_hasRoom, Cond.instanceMethod yX5_hasRoom, Cond.selects RX5 yX5_hasRoom yX5_hasRoom, Cond.code yX5_hasRoom cX5_hasRoom 2 (some .boolean), Cond.methodLink RX5 94 yX5_goOut, Cond.instanceMethod yX5_goOut, Cond.selects RX5 yX5_goOut yX5_goOut, Cond.code yX5_goOut cX5_goOut 4 none, Cond.methodLink RX5 81 yX5_before, Cond.instanceMethod yX5_before, Cond.selects RX5 yX5_before yX5_before, Cond.code yX5_before cX5_before 2 (some .int), Cond.methodLink RX5 111 yX5_turns, Cond.instanceMethod yX5_turns, Cond.selects RX5 yX5_turns yX5_turns, Cond.code yX5_turns cX5_turns 4 none, Cond.methodLink RX5 101 yX5_putOn, Cond.instanceMethod yX5_putOn, Cond.selects RX5 yX5_putOn yX5_putOn, Cond.code yX5_putOn cX5_putOn 4 none, Cond.methodLink RX5 98 yX5_firstWaiting]
def wsL_law_r11 : List Cond := [Cond.instanceMethod yX5_firstWaiting, Cond.selects RX5 yX5_firstWaiting yX5_firstWaiting, Cond.code yX5_firstWaiting cX5_firstWaiting 4 (some .int), Cond.methodLink RL 40 yX4_out, Cond.instanceMethod yX4_out, Cond.selects RX4 yX4_out yX4_out, Cond.code yX4_out cX4_out 4 (some .int), Cond.methodLink RL 43 yX5_out, Cond.instanceMethod yX5_out, Cond.selects RX5 yX5_out yX5_out, Cond.code yX5_out cX5_out 3 (some .int), Cond.methodLink RL 44 yL_tray, Cond.static yL_tray, Cond.codeWith yL_tray cL_tray 4 (some .int) [(0, 9, 12, 13)], Cond.methodLink RL 7 yX4_tray, Cond.instanceMethod yX4_tray, Cond.selects RX4 yX4_tray yX4_tray, Cond.code yX4_tray cX4_tray 3 (some .int), Cond.classLink RX4 95 RJx00060, Cond.instantiable RJx00060 6, Cond.initialized RJx00060, Cond.methodLink RX4 92 yX4_isTray, Cond.instanceMethod yX4_isTray, Cond.selects RX4 yX4_isTray yX4_isTray]
def wsL_law_r12 : List Cond := [Cond.code yX4_isTray cX4_isTray 2 (some .boolean), Cond.methodLink RL 47 yX5_tray, Cond.instanceMethod yX5_tray, Cond.selects RX5 yX5_tray yX5_tray, Cond.code yX5_tray cX5_tray 2 (some .int), Cond.methodLink RX5 114 yX5_itemOn, Cond.instanceMethod yX5_itemOn, Cond.selects RX5 yX5_itemOn yX5_itemOn, Cond.code yX5_itemOn cX5_itemOn 4 (some .int), Cond.methodLink RL 48 yX5_thrown, Cond.instanceMethod yX5_thrown, Cond.selects RX5 yX5_thrown yX5_thrown, Cond.code yX5_thrown cX5_thrown 1 (some .int), Cond.methodLink RL 52 yX4_full, Cond.instanceMethod yX4_full, Cond.selects RX4 yX4_full yX4_full, Cond.code yX4_full cX4_full 4 (some .int), Cond.methodLink RX4 105 yX0_holdShut, Cond.instanceMethod yX0_holdShut, Cond.selects RX0 yX0_holdShut yX0_holdShut, Cond.code yX0_holdShut cX0_holdShut 1 none, Cond.methodLink RX4 108 yX0_empty, Cond.instanceMethod yX0_empty, Cond.selects RX0 yX0_empty yX0_empty]
def wsL_law_r13 : List Cond := [Cond.code yX0_empty cX0_empty 1 none, Cond.methodLink RL 56 yX5_full, Cond.instanceMethod yX5_full, Cond.selects RX5 yX5_full yX5_full, Cond.code yX5_full cX5_full 4 (some .int), Cond.methodLink RL 57 yX4_missed, Cond.instanceMethod yX4_missed, Cond.selects RX4 yX4_missed yX4_missed, Cond.code yX4_missed cX4_missed 3 (some .int), Cond.fieldLink RX4 124 "LoopSorter$Place" "MISSED" "LLoopSorter$Place;", Cond.methodLink RX4 111 yX4_itemNumbered, Cond.instanceMethod yX4_itemNumbered, Cond.selects RX4 yX4_itemNumbered yX4_itemNumbered, Cond.code yX4_itemNumbered cX4_itemNumbered 2 (some (.object "LoopSorter$Item")), Cond.methodLink RL 60 yX5_missed, Cond.instanceMethod yX5_missed, Cond.selects RX5 yX5_missed yX5_missed, Cond.code yX5_missed cX5_missed 2 (some .int), Cond.methodLink RX5 117 yX5_isItem, Cond.instanceMethod yX5_isItem, Cond.selects RX5 yX5_isItem yX5_isItem, Cond.code yX5_isItem cX5_isItem 2 (some .boolean), Cond.methodLink RL 61 yL_found, Cond.static yL_found]
def wsL_law_r14 : List Cond := [Cond.codeWith yL_found cL_found 5 (some .int) [(0, 10, 13, 13)], Cond.methodLink RL 15 yX4_found, Cond.instanceMethod yX4_found, Cond.selects RX4 yX4_found yX4_found, Cond.code yX4_found cX4_found 4 (some .int), Cond.methodLink RL 64 yX5_found, Cond.instanceMethod yX5_found, Cond.selects RX5 yX5_found yX5_found, Cond.code yX5_found cX5_found 3 (some .int), Cond.methodLink RL 65 yX4_speed, Cond.instanceMethod yX4_speed, Cond.selects RX4 yX4_speed yX4_speed, Cond.code yX4_speed cX4_speed 3 (some .int), Cond.methodLink RL 68 yX5_speed, Cond.instanceMethod yX5_speed, Cond.selects RX5 yX5_speed yX5_speed, Cond.code yX5_speed cX5_speed 3 (some .int), Cond.methodLink RL 69 yX4_share, Cond.instanceMethod yX4_share, Cond.selects RX4 yX4_share yX4_share, Cond.code yX4_share cX4_share 2 (some .long), Cond.constantLong RX4 134 (-11), Cond.methodLink RL 73 yX5_share, Cond.instanceMethod yX5_share]
def wsL_law_r15 : List Cond := [Cond.selects RX5 yX5_share yX5_share, Cond.code yX5_share cX5_share 2 (some .long), Cond.constantLong RX5 120 (-11), Cond.methodLink RL 74 yX4_round, Cond.instanceMethod yX4_round, Cond.selects RX4 yX4_round yX4_round, Cond.code yX4_round cX4_round 3 (some .int), Cond.methodLink RL 77 yX5_round, Cond.instanceMethod yX5_round, Cond.selects RX5 yX5_round yX5_round, Cond.code yX5_round cX5_round 2 (some .int)]
def wsL_law : List Cond := (wsL_law_r1 ++ (wsL_law_r2 ++ (wsL_law_r3 ++ (wsL_law_r4 ++ (wsL_law_r5 ++ (wsL_law_r6 ++ (wsL_law_r7 ++ (wsL_law_r8 ++ (wsL_law_r9 ++ (wsL_law_r10 ++ (wsL_law_r11 ++ (wsL_law_r12 ++ (wsL_law_r13 ++ (wsL_law_r14 ++ wsL_law_r15)))))))))))))) ++ wsX40 ++ wsX50 ++ wsX10 ++ wsX00 ++ wsX20 ++ wsJx000600 ++ ([] : List Cond)
set_option maxRecDepth 20000 in
theorem wsL_law_in : ∀ w ∈ wsL_law, w ∈ lw_tbl := fun w h => (goodIn_p wsL_law [305, 43, 46, 49, 52, 55, 63, 88, 400, 148, 151, 154, 158, 162, 198, 479, 482, 486, 203, 207, 211, 215, 221, 225, 229, 233, 237, 243, 247, 251, 255, 259, 263, 490, 494, 498, 502, 506, 510, 514, 518, 522, 267, 526, 313, 317, 530, 534, 475, 271, 275, 279, 538, 283, 287, 542, 546, 395, 550, 293, 554, 297, 558, 302, 563] (by decide +kernel) (by decide +kernel) w h).1
theorem inlX0 : ∀ w ∈ wsX00, w ∈ wsL_law := fun _ h => List.mem_append_left _ (List.mem_append_left _ (List.mem_append_left _ (List.mem_append_right _ h)))
theorem inX0 : ∀ w ∈ wsX00, w ∈ lw_tbl := fun w h => wsL_law_in w (inlX0 w h)
theorem inlX1 : ∀ w ∈ wsX10, w ∈ wsL_law := fun _ h => List.mem_append_left _ (List.mem_append_left _ (List.mem_append_left _ (List.mem_append_left _ (List.mem_append_right _ h))))
theorem inX1 : ∀ w ∈ wsX10, w ∈ lw_tbl := fun w h => wsL_law_in w (inlX1 w h)
theorem inlX2 : ∀ w ∈ wsX20, w ∈ wsL_law := fun _ h => List.mem_append_left _ (List.mem_append_left _ (List.mem_append_right _ h))
theorem inX2 : ∀ w ∈ wsX20, w ∈ lw_tbl := fun w h => wsL_law_in w (inlX2 w h)
theorem inX3 : ∀ w ∈ wsX30, w ∈ lw_tbl := by decide +kernel
theorem inlX4 : ∀ w ∈ wsX40, w ∈ wsL_law := fun _ h => List.mem_append_left _ (List.mem_append_left _ (List.mem_append_left _ (List.mem_append_left _ (List.mem_append_left _ (List.mem_append_left _ (List.mem_append_right _ h))))))
theorem inX4 : ∀ w ∈ wsX40, w ∈ lw_tbl := fun w h => wsL_law_in w (inlX4 w h)
theorem inlX5 : ∀ w ∈ wsX50, w ∈ wsL_law := fun _ h => List.mem_append_left _ (List.mem_append_left _ (List.mem_append_left _ (List.mem_append_left _ (List.mem_append_left _ (List.mem_append_right _ h)))))
theorem inX5 : ∀ w ∈ wsX50, w ∈ lw_tbl := fun w h => wsL_law_in w (inlX5 w h)
theorem inlJx00060 : ∀ w ∈ wsJx000600, w ∈ wsL_law := fun _ h => List.mem_append_left _ (List.mem_append_right _ h)
theorem inJx00060 : ∀ w ∈ wsJx000600, w ∈ lw_tbl := fun w h => wsL_law_in w (inlJx00060 w h)
theorem inJx29ce0 : ∀ w ∈ wsJx29ce00, w ∈ lw_tbl := by decide +kernel
theorem inJ9 : ∀ w ∈ wsJ90, w ∈ lw_tbl := by decide +kernel
theorem inJ0 : ∀ w ∈ wsJ00, w ∈ lw_tbl := by decide +kernel
theorem dX0_init_0 : decode cX0_init 0 = .ok (.aload_n 0, 1) := by decide +kernel
theorem dX0_init_1 : decode cX0_init 1 = .ok (.invokespecial 1, 3) := by decide +kernel
theorem dX0_init_4 : decode cX0_init 4 = .ok (.aload_n 0, 1) := by decide +kernel
theorem dX0_init_5 : decode cX0_init 5 = .ok (.iload_n 1, 1) := by decide +kernel
theorem dX0_init_6 : decode cX0_init 6 = .ok (.putfield 7, 3) := by decide +kernel
theorem dX0_init_9 : decode cX0_init 9 = .ok (.aload_n 0, 1) := by decide +kernel
theorem dX0_init_10 : decode cX0_init 10 = .ok (.iload_n 2, 1) := by decide +kernel
theorem dX0_init_11 : decode cX0_init 11 = .ok (.putfield 13, 3) := by decide +kernel
theorem dX0_init_14 : decode cX0_init 14 = .ok (.return_, 1) := by decide +kernel
theorem dX0_hasRoom_0 : decode cX0_hasRoom 0 = .ok (.aload_n 0, 1) := by decide +kernel
theorem dX0_hasRoom_1 : decode cX0_hasRoom 1 = .ok (.getfield 13, 3) := by decide +kernel
theorem dX0_hasRoom_4 : decode cX0_hasRoom 4 = .ok (.ifCond .ne 19, 3) := by decide +kernel
theorem dX0_hasRoom_7 : decode cX0_hasRoom 7 = .ok (.aload_n 0, 1) := by decide +kernel
theorem dX0_hasRoom_8 : decode cX0_hasRoom 8 = .ok (.getfield 17, 3) := by decide +kernel
theorem dX0_hasRoom_11 : decode cX0_hasRoom 11 = .ok (.ifCond .ne 16, 3) := by decide +kernel
theorem dX0_hasRoom_14 : decode cX0_hasRoom 14 = .ok (.aload_n 0, 1) := by decide +kernel
theorem dX0_hasRoom_15 : decode cX0_hasRoom 15 = .ok (.getfield 20, 3) := by decide +kernel
theorem dX0_hasRoom_18 : decode cX0_hasRoom 18 = .ok (.bipush 10, 2) := by decide +kernel
theorem dX0_hasRoom_20 : decode cX0_hasRoom 20 = .ok (.if_icmp .ge 7, 3) := by decide +kernel
theorem dX0_hasRoom_23 : decode cX0_hasRoom 23 = .ok (.iconst 1, 1) := by decide +kernel
theorem dX0_hasRoom_24 : decode cX0_hasRoom 24 = .ok (.goto 4, 3) := by decide +kernel
theorem dX0_hasRoom_27 : decode cX0_hasRoom 27 = .ok (.iconst 0, 1) := by decide +kernel
theorem dX0_hasRoom_28 : decode cX0_hasRoom 28 = .ok (.ireturn, 1) := by decide +kernel
theorem dX0_holdShut_0 : decode cX0_holdShut 0 = .ok (.aload_n 0, 1) := by decide +kernel
theorem dX0_holdShut_1 : decode cX0_holdShut 1 = .ok (.iconst 1, 1) := by decide +kernel
theorem dX0_holdShut_2 : decode cX0_holdShut 2 = .ok (.putfield 17, 3) := by decide +kernel
theorem dX0_holdShut_5 : decode cX0_holdShut 5 = .ok (.return_, 1) := by decide +kernel
theorem dX0_empty_0 : decode cX0_empty 0 = .ok (.aload_n 0, 1) := by decide +kernel
theorem dX0_empty_1 : decode cX0_empty 1 = .ok (.iconst 0, 1) := by decide +kernel
theorem dX0_empty_2 : decode cX0_empty 2 = .ok (.putfield 17, 3) := by decide +kernel
theorem dX0_empty_5 : decode cX0_empty 5 = .ok (.aload_n 0, 1) := by decide +kernel
theorem dX0_empty_6 : decode cX0_empty 6 = .ok (.iconst 0, 1) := by decide +kernel
theorem dX0_empty_7 : decode cX0_empty 7 = .ok (.putfield 20, 3) := by decide +kernel
theorem dX0_empty_10 : decode cX0_empty 10 = .ok (.return_, 1) := by decide +kernel
theorem dX1_init_0 : decode cX1_init 0 = .ok (.aload_n 0, 1) := by decide +kernel
theorem dX1_init_1 : decode cX1_init 1 = .ok (.invokespecial 1, 3) := by decide +kernel
theorem dX1_init_4 : decode cX1_init 4 = .ok (.aload_n 0, 1) := by decide +kernel
theorem dX1_init_5 : decode cX1_init 5 = .ok (.iload_n 1, 1) := by decide +kernel
end
section
theorem dX1_init_6 : decode cX1_init 6 = .ok (.putfield 7, 3) := by decide +kernel
theorem dX1_init_9 : decode cX1_init 9 = .ok (.aload_n 0, 1) := by decide +kernel
theorem dX1_init_10 : decode cX1_init 10 = .ok (.bipush 8, 2) := by decide +kernel
theorem dX1_init_12 : decode cX1_init 12 = .ok (.anewarray 13, 3) := by decide +kernel
theorem dX1_init_15 : decode cX1_init 15 = .ok (.putfield 15, 3) := by decide +kernel
theorem dX1_init_18 : decode cX1_init 18 = .ok (.return_, 1) := by decide +kernel
theorem dX1_isRowFull_0 : decode cX1_isRowFull 0 = .ok (.aload_n 0, 1) := by decide +kernel
theorem dX1_isRowFull_1 : decode cX1_isRowFull 1 = .ok (.getfield 19, 3) := by decide +kernel
theorem dX1_isRowFull_4 : decode cX1_isRowFull 4 = .ok (.bipush 8, 2) := by decide +kernel
theorem dX1_isRowFull_6 : decode cX1_isRowFull 6 = .ok (.if_icmp .lt 7, 3) := by decide +kernel
theorem dX1_isRowFull_9 : decode cX1_isRowFull 9 = .ok (.iconst 1, 1) := by decide +kernel
theorem dX1_isRowFull_10 : decode cX1_isRowFull 10 = .ok (.goto 4, 3) := by decide +kernel
theorem dX1_isRowFull_13 : decode cX1_isRowFull 13 = .ok (.iconst 0, 1) := by decide +kernel
theorem dX1_isRowFull_14 : decode cX1_isRowFull 14 = .ok (.ireturn, 1) := by decide +kernel
set_option maxRecDepth 20000 in
theorem ggX1_addLast_X1_isRowFull : GoodIn wsX1_addLast wsX1_isRowFull := goodIn_r _ [7, 2, 8, 9, 10, 11, 12] (by decide +kernel) (by decide +kernel)
set_option maxRecDepth 20000 in
theorem gX1_addLast_X1_isRowFull : GoodIn wsX1_addLast (wsV RX1 22 RX1 yX1_isRowFull wsX1_isRowFull) := goodIn_app (goodIn_of _ (by decide +kernel)) ggX1_addLast_X1_isRowFull
theorem dX1_addLast_0 : decode cX1_addLast 0 = .ok (.aload_n 0, 1) := by decide +kernel
theorem dX1_addLast_1 : decode cX1_addLast 1 = .ok (.invokevirtual 22, 3) := by decide +kernel
theorem dX1_addLast_4 : decode cX1_addLast 4 = .ok (.ifCond .ne 23, 3) := by decide +kernel
theorem dX1_addLast_7 : decode cX1_addLast 7 = .ok (.aload_n 0, 1) := by decide +kernel
theorem dX1_addLast_8 : decode cX1_addLast 8 = .ok (.getfield 15, 3) := by decide +kernel
theorem dX1_addLast_11 : decode cX1_addLast 11 = .ok (.aload_n 0, 1) := by decide +kernel
theorem dX1_addLast_12 : decode cX1_addLast 12 = .ok (.getfield 19, 3) := by decide +kernel
theorem dX1_addLast_15 : decode cX1_addLast 15 = .ok (.aload_n 1, 1) := by decide +kernel
theorem dX1_addLast_16 : decode cX1_addLast 16 = .ok (.aastore, 1) := by decide +kernel
theorem dX1_addLast_17 : decode cX1_addLast 17 = .ok (.aload_n 0, 1) := by decide +kernel
theorem dX1_addLast_18 : decode cX1_addLast 18 = .ok (.dup, 1) := by decide +kernel
theorem dX1_addLast_19 : decode cX1_addLast 19 = .ok (.getfield 19, 3) := by decide +kernel
theorem dX1_addLast_22 : decode cX1_addLast 22 = .ok (.iconst 1, 1) := by decide +kernel
theorem dX1_addLast_23 : decode cX1_addLast 23 = .ok (.iadd, 1) := by decide +kernel
theorem dX1_addLast_24 : decode cX1_addLast 24 = .ok (.putfield 19, 3) := by decide +kernel
theorem dX1_addLast_27 : decode cX1_addLast 27 = .ok (.return_, 1) := by decide +kernel
theorem dX1_first_0 : decode cX1_first 0 = .ok (.aload_n 0, 1) := by decide +kernel
theorem dX1_first_1 : decode cX1_first 1 = .ok (.getfield 19, 3) := by decide +kernel
theorem dX1_first_4 : decode cX1_first 4 = .ok (.ifCond .le 12, 3) := by decide +kernel
theorem dX1_first_7 : decode cX1_first 7 = .ok (.aload_n 0, 1) := by decide +kernel
theorem dX1_first_8 : decode cX1_first 8 = .ok (.getfield 15, 3) := by decide +kernel
theorem dX1_first_11 : decode cX1_first 11 = .ok (.iconst 0, 1) := by decide +kernel
theorem dX1_first_12 : decode cX1_first 12 = .ok (.aaload, 1) := by decide +kernel
theorem dX1_first_13 : decode cX1_first 13 = .ok (.goto 4, 3) := by decide +kernel
theorem dX1_first_16 : decode cX1_first 16 = .ok (.aconst_null, 1) := by decide +kernel
theorem dX1_first_17 : decode cX1_first 17 = .ok (.areturn, 1) := by decide +kernel
theorem dX1_removeFirst_0 : decode cX1_removeFirst 0 = .ok (.aload_n 0, 1) := by decide +kernel
theorem dX1_removeFirst_1 : decode cX1_removeFirst 1 = .ok (.getfield 19, 3) := by decide +kernel
theorem dX1_removeFirst_4 : decode cX1_removeFirst 4 = .ok (.ifCond .le 53, 3) := by decide +kernel
theorem dX1_removeFirst_7 : decode cX1_removeFirst 7 = .ok (.aload_n 0, 1) := by decide +kernel
theorem dX1_removeFirst_8 : decode cX1_removeFirst 8 = .ok (.dup, 1) := by decide +kernel
theorem dX1_removeFirst_9 : decode cX1_removeFirst 9 = .ok (.getfield 19, 3) := by decide +kernel
theorem dX1_removeFirst_12 : decode cX1_removeFirst 12 = .ok (.iconst 1, 1) := by decide +kernel
theorem dX1_removeFirst_13 : decode cX1_removeFirst 13 = .ok (.isub, 1) := by decide +kernel
theorem dX1_removeFirst_14 : decode cX1_removeFirst 14 = .ok (.putfield 19, 3) := by decide +kernel
theorem dX1_removeFirst_17 : decode cX1_removeFirst 17 = .ok (.iconst 0, 1) := by decide +kernel
theorem dX1_removeFirst_18 : decode cX1_removeFirst 18 = .ok (.istore_n 1, 1) := by decide +kernel
theorem dX1_removeFirst_19 : decode cX1_removeFirst 19 = .ok (.iload_n 1, 1) := by decide +kernel
theorem dX1_removeFirst_20 : decode cX1_removeFirst 20 = .ok (.aload_n 0, 1) := by decide +kernel
theorem dX1_removeFirst_21 : decode cX1_removeFirst 21 = .ok (.getfield 19, 3) := by decide +kernel
theorem dX1_removeFirst_24 : decode cX1_removeFirst 24 = .ok (.if_icmp .ge 23, 3) := by decide +kernel
theorem dX1_removeFirst_27 : decode cX1_removeFirst 27 = .ok (.aload_n 0, 1) := by decide +kernel
theorem dX1_removeFirst_28 : decode cX1_removeFirst 28 = .ok (.getfield 15, 3) := by decide +kernel
theorem dX1_removeFirst_31 : decode cX1_removeFirst 31 = .ok (.iload_n 1, 1) := by decide +kernel
theorem dX1_removeFirst_32 : decode cX1_removeFirst 32 = .ok (.aload_n 0, 1) := by decide +kernel
theorem dX1_removeFirst_33 : decode cX1_removeFirst 33 = .ok (.getfield 15, 3) := by decide +kernel
theorem dX1_removeFirst_36 : decode cX1_removeFirst 36 = .ok (.iload_n 1, 1) := by decide +kernel
theorem dX1_removeFirst_37 : decode cX1_removeFirst 37 = .ok (.iconst 1, 1) := by decide +kernel
theorem dX1_removeFirst_38 : decode cX1_removeFirst 38 = .ok (.iadd, 1) := by decide +kernel
theorem dX1_removeFirst_39 : decode cX1_removeFirst 39 = .ok (.aaload, 1) := by decide +kernel
theorem dX1_removeFirst_40 : decode cX1_removeFirst 40 = .ok (.aastore, 1) := by decide +kernel
theorem dX1_removeFirst_41 : decode cX1_removeFirst 41 = .ok (.iinc 1 1, 3) := by decide +kernel
theorem dX1_removeFirst_44 : decode cX1_removeFirst 44 = .ok (.goto (-25), 3) := by decide +kernel
theorem dX1_removeFirst_47 : decode cX1_removeFirst 47 = .ok (.aload_n 0, 1) := by decide +kernel
theorem dX1_removeFirst_48 : decode cX1_removeFirst 48 = .ok (.getfield 15, 3) := by decide +kernel
theorem dX1_removeFirst_51 : decode cX1_removeFirst 51 = .ok (.aload_n 0, 1) := by decide +kernel
theorem dX1_removeFirst_52 : decode cX1_removeFirst 52 = .ok (.getfield 19, 3) := by decide +kernel
theorem dX1_removeFirst_55 : decode cX1_removeFirst 55 = .ok (.aconst_null, 1) := by decide +kernel
theorem dX1_removeFirst_56 : decode cX1_removeFirst 56 = .ok (.aastore, 1) := by decide +kernel
theorem dX1_removeFirst_57 : decode cX1_removeFirst 57 = .ok (.return_, 1) := by decide +kernel
theorem dX2_init_0 : decode cX2_init 0 = .ok (.aload_n 0, 1) := by decide +kernel
theorem dX2_init_1 : decode cX2_init 1 = .ok (.invokespecial 1, 3) := by decide +kernel
theorem dX2_init_4 : decode cX2_init 4 = .ok (.aload_n 0, 1) := by decide +kernel
theorem dX2_init_5 : decode cX2_init 5 = .ok (.iload_n 1, 1) := by decide +kernel
theorem dX2_init_6 : decode cX2_init 6 = .ok (.putfield 7, 3) := by decide +kernel
theorem dX2_init_9 : decode cX2_init 9 = .ok (.aload_n 0, 1) := by decide +kernel
theorem dX2_init_10 : decode cX2_init 10 = .ok (.iload_n 2, 1) := by decide +kernel
theorem dX2_init_11 : decode cX2_init 11 = .ok (.putfield 13, 3) := by decide +kernel
theorem dX2_init_14 : decode cX2_init 14 = .ok (.aload_n 0, 1) := by decide +kernel
theorem dX2_init_15 : decode cX2_init 15 = .ok (.iload_n 3, 1) := by decide +kernel
theorem dX2_init_16 : decode cX2_init 16 = .ok (.putfield 16, 3) := by decide +kernel
theorem dX2_init_19 : decode cX2_init 19 = .ok (.aload_n 0, 1) := by decide +kernel
theorem dX2_init_20 : decode cX2_init 20 = .ok (.getstatic 19, 3) := by decide +kernel
theorem dX2_init_23 : decode cX2_init 23 = .ok (.putfield 25, 3) := by decide +kernel
theorem dX2_init_26 : decode cX2_init 26 = .ok (.return_, 1) := by decide +kernel
set_option maxRecDepth 20000 in
theorem ggX4_init_X4_bringWithin : GoodIn wsX4_init wsX4_bringWithin := goodIn_r _ [22, 23, 24, 25, 26, 27, 28, 29] (by decide +kernel) (by decide +kernel)
set_option maxRecDepth 20000 in
theorem gX4_init_X4_bringWithin : GoodIn wsX4_init (va_wsS RX4 9 yX4_bringWithin wsX4_bringWithin) := goodIn_app (goodIn_of _ (by decide +kernel)) ggX4_init_X4_bringWithin
set_option maxRecDepth 20000 in
theorem ggX4_init_X1_init : GoodIn wsX4_init wsX1_init := goodIn_r _ [32, 33, 2, 3, 34, 35, 36, 56, 57, 58, 59, 60] (by decide +kernel) (by decide +kernel)
set_option maxRecDepth 20000 in
theorem gX4_init_X1_init : GoodIn wsX4_init (wsX1_init) := ggX4_init_X1_init
set_option maxRecDepth 20000 in
theorem ggX4_init_X0_init : GoodIn wsX4_init wsX0_init := goodIn_r _ [39, 40, 2, 3, 41, 42, 61, 62, 63, 64] (by decide +kernel) (by decide +kernel)
set_option maxRecDepth 20000 in
theorem gX4_init_X0_init : GoodIn wsX4_init (wsX0_init) := ggX4_init_X0_init
theorem dX4_init_0 : decode cX4_init 0 = .ok (.aload_n 0, 1) := by decide +kernel
theorem dX4_init_1 : decode cX4_init 1 = .ok (.invokespecial 1, 3) := by decide +kernel
theorem dX4_init_4 : decode cX4_init 4 = .ok (.aload_n 0, 1) := by decide +kernel
theorem dX4_init_5 : decode cX4_init 5 = .ok (.iload_n 1, 1) := by decide +kernel
theorem dX4_init_6 : decode cX4_init 6 = .ok (.sipush 200, 3) := by decide +kernel
theorem dX4_init_9 : decode cX4_init 9 = .ok (.invokestatic 9, 3) := by decide +kernel
theorem dX4_init_12 : decode cX4_init 12 = .ok (.putfield 13, 3) := by decide +kernel
theorem dX4_init_15 : decode cX4_init 15 = .ok (.aload_n 0, 1) := by decide +kernel
theorem dX4_init_16 : decode cX4_init 16 = .ok (.iload_n 2, 1) := by decide +kernel
theorem dX4_init_17 : decode cX4_init 17 = .ok (.bipush 20, 2) := by decide +kernel
theorem dX4_init_19 : decode cX4_init 19 = .ok (.invokestatic 9, 3) := by decide +kernel
theorem dX4_init_22 : decode cX4_init 22 = .ok (.putfield 17, 3) := by decide +kernel
theorem dX4_init_25 : decode cX4_init 25 = .ok (.aload_n 0, 1) := by decide +kernel
theorem dX4_init_26 : decode cX4_init 26 = .ok (.aload_n 0, 1) := by decide +kernel
theorem dX4_init_27 : decode cX4_init 27 = .ok (.getfield 13, 3) := by decide +kernel
theorem dX4_init_30 : decode cX4_init 30 = .ok (.anewarray 20, 3) := by decide +kernel
theorem dX4_init_33 : decode cX4_init 33 = .ok (.putfield 22, 3) := by decide +kernel
theorem dX4_init_36 : decode cX4_init 36 = .ok (.aload_n 0, 1) := by decide +kernel
theorem dX4_init_37 : decode cX4_init 37 = .ok (.sipush 400, 3) := by decide +kernel
theorem dX4_init_40 : decode cX4_init 40 = .ok (.anewarray 20, 3) := by decide +kernel
theorem dX4_init_43 : decode cX4_init 43 = .ok (.putfield 26, 3) := by decide +kernel
theorem dX4_init_46 : decode cX4_init 46 = .ok (.aload_n 0, 1) := by decide +kernel
theorem dX4_init_47 : decode cX4_init 47 = .ok (.sipush 400, 3) := by decide +kernel
theorem dX4_init_50 : decode cX4_init 50 = .ok (.anewarray 20, 3) := by decide +kernel
theorem dX4_init_53 : decode cX4_init 53 = .ok (.putfield 29, 3) := by decide +kernel
theorem dX4_init_56 : decode cX4_init 56 = .ok (.aload_n 0, 1) := by decide +kernel
theorem dX4_init_57 : decode cX4_init 57 = .ok (.iconst 1, 1) := by decide +kernel
theorem dX4_init_58 : decode cX4_init 58 = .ok (.putfield 32, 3) := by decide +kernel
theorem dX4_init_61 : decode cX4_init 61 = .ok (.aload_n 0, 1) := by decide +kernel
theorem dX4_init_62 : decode cX4_init 62 = .ok (.iconst 4, 1) := by decide +kernel
theorem dX4_init_63 : decode cX4_init 63 = .ok (.anewarray 35, 3) := by decide +kernel
theorem dX4_init_66 : decode cX4_init 66 = .ok (.putfield 37, 3) := by decide +kernel
theorem dX4_init_69 : decode cX4_init 69 = .ok (.iconst 0, 1) := by decide +kernel
theorem dX4_init_70 : decode cX4_init 70 = .ok (.istore_n 3, 1) := by decide +kernel
theorem dX4_init_71 : decode cX4_init 71 = .ok (.iload_n 3, 1) := by decide +kernel
theorem dX4_init_72 : decode cX4_init 72 = .ok (.iconst 4, 1) := by decide +kernel
theorem dX4_init_73 : decode cX4_init 73 = .ok (.if_icmp .ge 30, 3) := by decide +kernel
theorem dX4_init_76 : decode cX4_init 76 = .ok (.aload_n 0, 1) := by decide +kernel
theorem dX4_init_77 : decode cX4_init 77 = .ok (.getfield 37, 3) := by decide +kernel
theorem dX4_init_80 : decode cX4_init 80 = .ok (.iload_n 3, 1) := by decide +kernel
theorem dX4_init_81 : decode cX4_init 81 = .ok (.new 35, 3) := by decide +kernel
theorem dX4_init_84 : decode cX4_init 84 = .ok (.dup, 1) := by decide +kernel
theorem dX4_init_85 : decode cX4_init 85 = .ok (.iload_n 3, 1) := by decide +kernel
theorem dX4_init_86 : decode cX4_init 86 = .ok (.aload_n 0, 1) := by decide +kernel
theorem dX4_init_87 : decode cX4_init 87 = .ok (.getfield 13, 3) := by decide +kernel
theorem dX4_init_90 : decode cX4_init 90 = .ok (.imul, 1) := by decide +kernel
theorem dX4_init_91 : decode cX4_init 91 = .ok (.iconst 4, 1) := by decide +kernel
theorem dX4_init_92 : decode cX4_init 92 = .ok (.idiv, 1) := by decide +kernel
theorem dX4_init_93 : decode cX4_init 93 = .ok (.invokespecial 41, 3) := by decide +kernel
theorem dX4_init_96 : decode cX4_init 96 = .ok (.aastore, 1) := by decide +kernel
theorem dX4_init_97 : decode cX4_init 97 = .ok (.iinc 3 1, 3) := by decide +kernel
theorem dX4_init_100 : decode cX4_init 100 = .ok (.goto (-29), 3) := by decide +kernel
theorem dX4_init_103 : decode cX4_init 103 = .ok (.aload_n 0, 1) := by decide +kernel
theorem dX4_init_104 : decode cX4_init 104 = .ok (.bipush 16, 2) := by decide +kernel
theorem dX4_init_106 : decode cX4_init 106 = .ok (.anewarray 44, 3) := by decide +kernel
theorem dX4_init_109 : decode cX4_init 109 = .ok (.putfield 46, 3) := by decide +kernel
theorem dX4_init_112 : decode cX4_init 112 = .ok (.iconst 0, 1) := by decide +kernel
theorem dX4_init_113 : decode cX4_init 113 = .ok (.istore_n 3, 1) := by decide +kernel
theorem dX4_init_114 : decode cX4_init 114 = .ok (.iload_n 3, 1) := by decide +kernel
theorem dX4_init_115 : decode cX4_init 115 = .ok (.bipush 16, 2) := by decide +kernel
theorem dX4_init_117 : decode cX4_init 117 = .ok (.if_icmp .ge 49, 3) := by decide +kernel
theorem dX4_init_120 : decode cX4_init 120 = .ok (.aload_n 0, 1) := by decide +kernel
theorem dX4_init_121 : decode cX4_init 121 = .ok (.getfield 46, 3) := by decide +kernel
theorem dX4_init_124 : decode cX4_init 124 = .ok (.iload_n 3, 1) := by decide +kernel
theorem dX4_init_125 : decode cX4_init 125 = .ok (.new 44, 3) := by decide +kernel
theorem dX4_init_128 : decode cX4_init 128 = .ok (.dup, 1) := by decide +kernel
theorem dX4_init_129 : decode cX4_init 129 = .ok (.iload_n 3, 1) := by decide +kernel
theorem dX4_init_130 : decode cX4_init 130 = .ok (.aload_n 0, 1) := by decide +kernel
theorem dX4_init_131 : decode cX4_init 131 = .ok (.getfield 13, 3) := by decide +kernel
theorem dX4_init_134 : decode cX4_init 134 = .ok (.imul, 1) := by decide +kernel
theorem dX4_init_135 : decode cX4_init 135 = .ok (.aload_n 0, 1) := by decide +kernel
theorem dX4_init_136 : decode cX4_init 136 = .ok (.getfield 13, 3) := by decide +kernel
theorem dX4_init_139 : decode cX4_init 139 = .ok (.iconst 2, 1) := by decide +kernel
theorem dX4_init_140 : decode cX4_init 140 = .ok (.idiv, 1) := by decide +kernel
theorem dX4_init_141 : decode cX4_init 141 = .ok (.iadd, 1) := by decide +kernel
theorem dX4_init_142 : decode cX4_init 142 = .ok (.bipush 16, 2) := by decide +kernel
theorem dX4_init_144 : decode cX4_init 144 = .ok (.idiv, 1) := by decide +kernel
theorem dX4_init_145 : decode cX4_init 145 = .ok (.iload_n 3, 1) := by decide +kernel
theorem dX4_init_146 : decode cX4_init 146 = .ok (.bipush 15, 2) := by decide +kernel
theorem dX4_init_148 : decode cX4_init 148 = .ok (.if_icmp .ne 7, 3) := by decide +kernel
theorem dX4_init_151 : decode cX4_init 151 = .ok (.iconst 1, 1) := by decide +kernel
theorem dX4_init_152 : decode cX4_init 152 = .ok (.goto 4, 3) := by decide +kernel
theorem dX4_init_155 : decode cX4_init 155 = .ok (.iconst 0, 1) := by decide +kernel
theorem dX4_init_156 : decode cX4_init 156 = .ok (.invokespecial 50, 3) := by decide +kernel
theorem dX4_init_159 : decode cX4_init 159 = .ok (.aastore, 1) := by decide +kernel
theorem dX4_init_160 : decode cX4_init 160 = .ok (.iinc 3 1, 3) := by decide +kernel
theorem dX4_init_163 : decode cX4_init 163 = .ok (.goto (-49), 3) := by decide +kernel
theorem dX4_init_166 : decode cX4_init 166 = .ok (.return_, 1) := by decide +kernel
set_option maxRecDepth 20000 in
theorem ggX4_induct_X4_isInduct : GoodIn wsX4_induct wsX4_isInduct := goodIn_r _ [11] (by decide +kernel) (by decide +kernel)
set_option maxRecDepth 20000 in
theorem gX4_induct_X4_isInduct : GoodIn wsX4_induct (va_wsS RX4 53 yX4_isInduct wsX4_isInduct) := goodIn_app (goodIn_of _ (by decide +kernel)) ggX4_induct_X4_isInduct
set_option maxRecDepth 20000 in
theorem ggX4_induct_X4_isChute : GoodIn wsX4_induct wsX4_isChute := goodIn_r _ [14] (by decide +kernel) (by decide +kernel)
set_option maxRecDepth 20000 in
theorem gX4_induct_X4_isChute : GoodIn wsX4_induct (va_wsS RX4 57 yX4_isChute wsX4_isChute) := goodIn_app (goodIn_of _ (by decide +kernel)) ggX4_induct_X4_isChute
set_option maxRecDepth 20000 in
theorem ggX4_induct_X1_isRowFull : GoodIn wsX4_induct wsX1_isRowFull := goodIn_r _ [19, 20, 59, 60, 61, 62, 63] (by decide +kernel) (by decide +kernel)
set_option maxRecDepth 20000 in
theorem gX4_induct_X1_isRowFull : GoodIn wsX4_induct (wsV RX4 63 RX1 yX1_isRowFull wsX1_isRowFull) := goodIn_app (goodIn_of _ (by decide +kernel)) ggX4_induct_X1_isRowFull
set_option maxRecDepth 20000 in
theorem ggX4_induct_X2_init : GoodIn wsX4_induct wsX2_init := goodIn_r _ [23, 24, 25, 26, 27, 28, 29, 30, 31, 51, 52, 53, 54, 55, 56, 57, 58] (by decide +kernel) (by decide +kernel)
set_option maxRecDepth 20000 in
theorem gX4_induct_X2_init : GoodIn wsX4_induct (wsX2_init) := ggX4_induct_X2_init
set_option maxRecDepth 20000 in
theorem ggX4_induct_X1_addLast : GoodIn wsX4_induct wsX1_addLast := goodIn_r _ [35, 36, 20, 37, 16, 17, 18, 19, 59, 60, 61, 62, 63] (by decide +kernel) (by decide +kernel)
set_option maxRecDepth 20000 in
theorem gX4_induct_X1_addLast : GoodIn wsX4_induct (wsV RX4 70 RX1 yX1_addLast wsX1_addLast) := goodIn_app (goodIn_of _ (by decide +kernel)) ggX4_induct_X1_addLast
theorem dX4_induct_0 : decode cX4_induct 0 = .ok (.iload_n 1, 1) := by decide +kernel
theorem dX4_induct_1 : decode cX4_induct 1 = .ok (.invokestatic 53, 3) := by decide +kernel
theorem dX4_induct_4 : decode cX4_induct 4 = .ok (.ifCond .eq 10, 3) := by decide +kernel
theorem dX4_induct_7 : decode cX4_induct 7 = .ok (.iload_n 3, 1) := by decide +kernel
theorem dX4_induct_8 : decode cX4_induct 8 = .ok (.invokestatic 57, 3) := by decide +kernel
theorem dX4_induct_11 : decode cX4_induct 11 = .ok (.ifCond .ne 6, 3) := by decide +kernel
theorem dX4_induct_14 : decode cX4_induct 14 = .ok (.bipush (-11), 2) := by decide +kernel
theorem dX4_induct_16 : decode cX4_induct 16 = .ok (.ireturn, 1) := by decide +kernel
theorem dX4_induct_17 : decode cX4_induct 17 = .ok (.iload_n 2, 1) := by decide +kernel
theorem dX4_induct_18 : decode cX4_induct 18 = .ok (.iconst 1, 1) := by decide +kernel
theorem dX4_induct_19 : decode cX4_induct 19 = .ok (.if_icmp .lt 8, 3) := by decide +kernel
theorem dX4_induct_22 : decode cX4_induct 22 = .ok (.iload_n 2, 1) := by decide +kernel
theorem dX4_induct_23 : decode cX4_induct 23 = .ok (.iconst 2, 1) := by decide +kernel
theorem dX4_induct_24 : decode cX4_induct 24 = .ok (.if_icmp .le 6, 3) := by decide +kernel
theorem dX4_induct_27 : decode cX4_induct 27 = .ok (.bipush (-12), 2) := by decide +kernel
theorem dX4_induct_29 : decode cX4_induct 29 = .ok (.ireturn, 1) := by decide +kernel
theorem dX4_induct_30 : decode cX4_induct 30 = .ok (.aload_n 0, 1) := by decide +kernel
theorem dX4_induct_31 : decode cX4_induct 31 = .ok (.getfield 60, 3) := by decide +kernel
theorem dX4_induct_34 : decode cX4_induct 34 = .ok (.sipush 400, 3) := by decide +kernel
theorem dX4_induct_37 : decode cX4_induct 37 = .ok (.if_icmp .lt 6, 3) := by decide +kernel
theorem dX4_induct_40 : decode cX4_induct 40 = .ok (.bipush (-14), 2) := by decide +kernel
theorem dX4_induct_42 : decode cX4_induct 42 = .ok (.ireturn, 1) := by decide +kernel
theorem dX4_induct_43 : decode cX4_induct 43 = .ok (.aload_n 0, 1) := by decide +kernel
theorem dX4_induct_44 : decode cX4_induct 44 = .ok (.getfield 37, 3) := by decide +kernel
theorem dX4_induct_47 : decode cX4_induct 47 = .ok (.iload_n 1, 1) := by decide +kernel
theorem dX4_induct_48 : decode cX4_induct 48 = .ok (.aaload, 1) := by decide +kernel
theorem dX4_induct_49 : decode cX4_induct 49 = .ok (.invokevirtual 63, 3) := by decide +kernel
theorem dX4_induct_52 : decode cX4_induct 52 = .ok (.ifCond .eq 5, 3) := by decide +kernel
theorem dX4_induct_55 : decode cX4_induct 55 = .ok (.iconst 0, 1) := by decide +kernel
theorem dX4_induct_56 : decode cX4_induct 56 = .ok (.ireturn, 1) := by decide +kernel
theorem dX4_induct_57 : decode cX4_induct 57 = .ok (.new 20, 3) := by decide +kernel
theorem dX4_induct_60 : decode cX4_induct 60 = .ok (.dup, 1) := by decide +kernel
theorem dX4_induct_61 : decode cX4_induct 61 = .ok (.aload_n 0, 1) := by decide +kernel
theorem dX4_induct_62 : decode cX4_induct 62 = .ok (.getfield 60, 3) := by decide +kernel
theorem dX4_induct_65 : decode cX4_induct 65 = .ok (.iconst 1, 1) := by decide +kernel
theorem dX4_induct_66 : decode cX4_induct 66 = .ok (.iadd, 1) := by decide +kernel
theorem dX4_induct_67 : decode cX4_induct 67 = .ok (.iload_n 2, 1) := by decide +kernel
theorem dX4_induct_68 : decode cX4_induct 68 = .ok (.iload_n 3, 1) := by decide +kernel
theorem dX4_induct_69 : decode cX4_induct 69 = .ok (.invokespecial 67, 3) := by decide +kernel
theorem dX4_induct_72 : decode cX4_induct 72 = .ok (.astore 4, 2) := by decide +kernel
theorem dX4_induct_74 : decode cX4_induct 74 = .ok (.aload_n 0, 1) := by decide +kernel
theorem dX4_induct_75 : decode cX4_induct 75 = .ok (.getfield 26, 3) := by decide +kernel
theorem dX4_induct_78 : decode cX4_induct 78 = .ok (.aload_n 0, 1) := by decide +kernel
theorem dX4_induct_79 : decode cX4_induct 79 = .ok (.getfield 60, 3) := by decide +kernel
theorem dX4_induct_82 : decode cX4_induct 82 = .ok (.aload 4, 2) := by decide +kernel
theorem dX4_induct_84 : decode cX4_induct 84 = .ok (.aastore, 1) := by decide +kernel
theorem dX4_induct_85 : decode cX4_induct 85 = .ok (.aload_n 0, 1) := by decide +kernel
theorem dX4_induct_86 : decode cX4_induct 86 = .ok (.dup, 1) := by decide +kernel
theorem dX4_induct_87 : decode cX4_induct 87 = .ok (.getfield 60, 3) := by decide +kernel
theorem dX4_induct_90 : decode cX4_induct 90 = .ok (.iconst 1, 1) := by decide +kernel
theorem dX4_induct_91 : decode cX4_induct 91 = .ok (.iadd, 1) := by decide +kernel
theorem dX4_induct_92 : decode cX4_induct 92 = .ok (.putfield 60, 3) := by decide +kernel
theorem dX4_induct_95 : decode cX4_induct 95 = .ok (.aload_n 0, 1) := by decide +kernel
theorem dX4_induct_96 : decode cX4_induct 96 = .ok (.getfield 37, 3) := by decide +kernel
theorem dX4_induct_99 : decode cX4_induct 99 = .ok (.iload_n 1, 1) := by decide +kernel
theorem dX4_induct_100 : decode cX4_induct 100 = .ok (.aaload, 1) := by decide +kernel
theorem dX4_induct_101 : decode cX4_induct 101 = .ok (.aload 4, 2) := by decide +kernel
theorem dX4_induct_103 : decode cX4_induct 103 = .ok (.invokevirtual 70, 3) := by decide +kernel
theorem dX4_induct_106 : decode cX4_induct 106 = .ok (.aload 4, 2) := by decide +kernel
theorem dX4_induct_108 : decode cX4_induct 108 = .ok (.getfield 74, 3) := by decide +kernel
theorem dX4_induct_111 : decode cX4_induct 111 = .ok (.ireturn, 1) := by decide +kernel
set_option maxRecDepth 20000 in
theorem ggX4_step_X4_runOneStep : GoodIn wsX4_step wsX4_runOneStep := goodIn_r _ [6, 7, 8, 9, 10, 11, 12, 13, 14, 5, 15, 16, 17, 18, 19, 20, 21, 22, 23, 24, 25, 26, 27, 28, 29, 30, 31, 32, 33, 34, 35, 36, 37, 38, 39, 40, 41, 42, 43, 44, 45, 46, 47, 48, 49, 1, 50, 51, 52, 53, 54, 55, 56, 57, 58, 59, 60, 61, 62, 63, 64, 65, 66, 67, 68, 69, 70, 71, 72, 73, 74, 75, 76, 77, 78, 79, 80, 81, 82, 83, 84, 85, 86, 87, 88, 89, 90, 91, 92, 93, 94, 95, 96, 97, 98, 99, 100, 101, 102, 103, 104, 105, 106, 107, 108, 109, 110, 111, 112, 113, 114, 115, 116, 117, 118, 119] (by decide +kernel) (by decide +kernel)
set_option maxRecDepth 20000 in
theorem gX4_step_X4_runOneStep : GoodIn wsX4_step (wsV RX4 80 RX4 yX4_runOneStep wsX4_runOneStep) := goodIn_app (goodIn_of _ (by decide +kernel)) ggX4_step_X4_runOneStep
theorem dX4_step_0 : decode cX4_step 0 = .ok (.iload_n 1, 1) := by decide +kernel
theorem dX4_step_1 : decode cX4_step 1 = .ok (.ifCond .lt 10, 3) := by decide +kernel
theorem dX4_step_4 : decode cX4_step 4 = .ok (.iload_n 1, 1) := by decide +kernel
theorem dX4_step_5 : decode cX4_step 5 = .ok (.sipush 1000, 3) := by decide +kernel
theorem dX4_step_8 : decode cX4_step 8 = .ok (.if_icmp .le 6, 3) := by decide +kernel
theorem dX4_step_11 : decode cX4_step 11 = .ok (.bipush (-12), 2) := by decide +kernel
theorem dX4_step_13 : decode cX4_step 13 = .ok (.ireturn, 1) := by decide +kernel
theorem dX4_step_14 : decode cX4_step 14 = .ok (.aload_n 0, 1) := by decide +kernel
theorem dX4_step_15 : decode cX4_step 15 = .ok (.getfield 77, 3) := by decide +kernel
theorem dX4_step_18 : decode cX4_step 18 = .ok (.istore_n 2, 1) := by decide +kernel
theorem dX4_step_19 : decode cX4_step 19 = .ok (.iconst 0, 1) := by decide +kernel
theorem dX4_step_20 : decode cX4_step 20 = .ok (.istore_n 3, 1) := by decide +kernel
theorem dX4_step_21 : decode cX4_step 21 = .ok (.iload_n 3, 1) := by decide +kernel
theorem dX4_step_22 : decode cX4_step 22 = .ok (.iload_n 1, 1) := by decide +kernel
theorem dX4_step_23 : decode cX4_step 23 = .ok (.if_icmp .ge 13, 3) := by decide +kernel
theorem dX4_step_26 : decode cX4_step 26 = .ok (.aload_n 0, 1) := by decide +kernel
theorem dX4_step_27 : decode cX4_step 27 = .ok (.invokevirtual 80, 3) := by decide +kernel
theorem dX4_step_30 : decode cX4_step 30 = .ok (.iinc 3 1, 3) := by decide +kernel
theorem dX4_step_33 : decode cX4_step 33 = .ok (.goto (-12), 3) := by decide +kernel
theorem dX4_step_36 : decode cX4_step 36 = .ok (.aload_n 0, 1) := by decide +kernel
theorem dX4_step_37 : decode cX4_step 37 = .ok (.getfield 77, 3) := by decide +kernel
theorem dX4_step_40 : decode cX4_step 40 = .ok (.iload_n 2, 1) := by decide +kernel
theorem dX4_step_41 : decode cX4_step 41 = .ok (.isub, 1) := by decide +kernel
theorem dX4_step_42 : decode cX4_step 42 = .ok (.ireturn, 1) := by decide +kernel
theorem dX4_out_0 : decode cX4_out 0 = .ok (.iload_n 1, 1) := by decide +kernel
theorem dX4_out_1 : decode cX4_out 1 = .ok (.ifCond .lt 11, 3) := by decide +kernel
theorem dX4_out_4 : decode cX4_out 4 = .ok (.iload_n 1, 1) := by decide +kernel
theorem dX4_out_5 : decode cX4_out 5 = .ok (.aload_n 0, 1) := by decide +kernel
theorem dX4_out_6 : decode cX4_out 6 = .ok (.getfield 77, 3) := by decide +kernel
theorem dX4_out_9 : decode cX4_out 9 = .ok (.if_icmp .lt 6, 3) := by decide +kernel
theorem dX4_out_12 : decode cX4_out 12 = .ok (.bipush (-11), 2) := by decide +kernel
theorem dX4_out_14 : decode cX4_out 14 = .ok (.ireturn, 1) := by decide +kernel
theorem dX4_out_15 : decode cX4_out 15 = .ok (.aload_n 0, 1) := by decide +kernel
theorem dX4_out_16 : decode cX4_out 16 = .ok (.getfield 29, 3) := by decide +kernel
theorem dX4_out_19 : decode cX4_out 19 = .ok (.iload_n 1, 1) := by decide +kernel
theorem dX4_out_20 : decode cX4_out 20 = .ok (.aaload, 1) := by decide +kernel
theorem dX4_out_21 : decode cX4_out 21 = .ok (.astore_n 3, 1) := by decide +kernel
theorem dX4_out_22 : decode cX4_out 22 = .ok (.iload_n 2, 1) := by decide +kernel
theorem dX4_out_23 : decode cX4_out 23 = .ok (.tableswitch 49 0 3 #[29, 34, 39, 44], 29) := by decide +kernel
theorem dX4_out_52 : decode cX4_out 52 = .ok (.aload_n 3, 1) := by decide +kernel
theorem dX4_out_53 : decode cX4_out 53 = .ok (.getfield 74, 3) := by decide +kernel
theorem dX4_out_56 : decode cX4_out 56 = .ok (.ireturn, 1) := by decide +kernel
theorem dX4_out_57 : decode cX4_out 57 = .ok (.aload_n 3, 1) := by decide +kernel
theorem dX4_out_58 : decode cX4_out 58 = .ok (.getfield 83, 3) := by decide +kernel
theorem dX4_out_61 : decode cX4_out 61 = .ok (.ireturn, 1) := by decide +kernel
theorem dX4_out_62 : decode cX4_out 62 = .ok (.aload_n 3, 1) := by decide +kernel
theorem dX4_out_63 : decode cX4_out 63 = .ok (.getfield 86, 3) := by decide +kernel
theorem dX4_out_66 : decode cX4_out 66 = .ok (.ireturn, 1) := by decide +kernel
theorem dX4_out_67 : decode cX4_out 67 = .ok (.aload_n 3, 1) := by decide +kernel
theorem dX4_out_68 : decode cX4_out 68 = .ok (.getfield 89, 3) := by decide +kernel
theorem dX4_out_71 : decode cX4_out 71 = .ok (.ireturn, 1) := by decide +kernel
theorem dX4_out_72 : decode cX4_out 72 = .ok (.bipush (-12), 2) := by decide +kernel
theorem dX4_out_74 : decode cX4_out 74 = .ok (.ireturn, 1) := by decide +kernel
set_option maxRecDepth 20000 in
theorem ggX4_tray_X4_isTray : GoodIn wsX4_tray wsX4_isTray := goodIn_r _ [10, 11, 18, 19, 20, 21, 22, 23, 24, 25, 26, 27, 28, 29, 30] (by decide +kernel) (by decide +kernel)
set_option maxRecDepth 20000 in
theorem gX4_tray_X4_isTray : GoodIn wsX4_tray (wsV RX4 92 RX4 yX4_isTray wsX4_isTray) := goodIn_app (goodIn_of _ (by decide +kernel)) ggX4_tray_X4_isTray
theorem dX4_tray_0 : decode cX4_tray 0 = .ok (.aload_n 0, 1) := by decide +kernel
theorem dX4_tray_1 : decode cX4_tray 1 = .ok (.iload_n 1, 1) := by decide +kernel
theorem dX4_tray_2 : decode cX4_tray 2 = .ok (.invokevirtual 92, 3) := by decide +kernel
theorem dX4_tray_5 : decode cX4_tray 5 = .ok (.ifCond .ne 13, 3) := by decide +kernel
theorem dX4_tray_8 : decode cX4_tray 8 = .ok (.new 95, 3) := by decide +kernel
theorem dX4_tray_11 : decode cX4_tray 11 = .ok (.dup, 1) := by decide +kernel
theorem dX4_tray_12 : decode cX4_tray 12 = .ok (.ldc 97, 2) := by decide +kernel
theorem dX4_tray_14 : decode cX4_tray 14 = .ok (.invokespecial 99, 3) := by decide +kernel
theorem dX4_tray_17 : decode cX4_tray 17 = .ok (.athrow, 1) := by decide +kernel
theorem dX4_tray_18 : decode cX4_tray 18 = .ok (.aload_n 0, 1) := by decide +kernel
theorem dX4_tray_19 : decode cX4_tray 19 = .ok (.getfield 22, 3) := by decide +kernel
theorem dX4_tray_22 : decode cX4_tray 22 = .ok (.iload_n 1, 1) := by decide +kernel
theorem dX4_tray_23 : decode cX4_tray 23 = .ok (.aaload, 1) := by decide +kernel
theorem dX4_tray_24 : decode cX4_tray 24 = .ok (.astore_n 2, 1) := by decide +kernel
theorem dX4_tray_25 : decode cX4_tray 25 = .ok (.aload_n 2, 1) := by decide +kernel
theorem dX4_tray_26 : decode cX4_tray 26 = .ok (.ifnonnull 7, 3) := by decide +kernel
theorem dX4_tray_29 : decode cX4_tray 29 = .ok (.iconst 0, 1) := by decide +kernel
theorem dX4_tray_30 : decode cX4_tray 30 = .ok (.goto 7, 3) := by decide +kernel
theorem dX4_tray_33 : decode cX4_tray 33 = .ok (.aload_n 2, 1) := by decide +kernel
theorem dX4_tray_34 : decode cX4_tray 34 = .ok (.getfield 74, 3) := by decide +kernel
theorem dX4_tray_37 : decode cX4_tray 37 = .ok (.ireturn, 1) := by decide +kernel
set_option maxRecDepth 20000 in
theorem ggX4_full_X4_isChute : GoodIn wsX4_full wsX4_isChute := goodIn_r _ [6] (by decide +kernel) (by decide +kernel)
set_option maxRecDepth 20000 in
theorem gX4_full_X4_isChute : GoodIn wsX4_full (va_wsS RX4 57 yX4_isChute wsX4_isChute) := goodIn_app (goodIn_of _ (by decide +kernel)) ggX4_full_X4_isChute
set_option maxRecDepth 20000 in
theorem ggX4_full_X0_holdShut : GoodIn wsX4_full wsX0_holdShut := goodIn_r _ [11, 12, 31, 32, 33, 34] (by decide +kernel) (by decide +kernel)
set_option maxRecDepth 20000 in
theorem gX4_full_X0_holdShut : GoodIn wsX4_full (wsV RX4 105 RX0 yX0_holdShut wsX0_holdShut) := goodIn_app (goodIn_of _ (by decide +kernel)) ggX4_full_X0_holdShut
set_option maxRecDepth 20000 in
theorem ggX4_full_X0_empty : GoodIn wsX4_full wsX0_empty := goodIn_r _ [16, 12, 17, 31, 32, 33, 34] (by decide +kernel) (by decide +kernel)
set_option maxRecDepth 20000 in
theorem gX4_full_X0_empty : GoodIn wsX4_full (wsV RX4 108 RX0 yX0_empty wsX0_empty) := goodIn_app (goodIn_of _ (by decide +kernel)) ggX4_full_X0_empty
theorem dX4_full_0 : decode cX4_full 0 = .ok (.iload_n 1, 1) := by decide +kernel
theorem dX4_full_1 : decode cX4_full 1 = .ok (.invokestatic 57, 3) := by decide +kernel
theorem dX4_full_4 : decode cX4_full 4 = .ok (.ifCond .ne 6, 3) := by decide +kernel
theorem dX4_full_7 : decode cX4_full 7 = .ok (.bipush (-11), 2) := by decide +kernel
theorem dX4_full_9 : decode cX4_full 9 = .ok (.ireturn, 1) := by decide +kernel
theorem dX4_full_10 : decode cX4_full 10 = .ok (.iload_n 2, 1) := by decide +kernel
theorem dX4_full_11 : decode cX4_full 11 = .ok (.ifCond .eq 12, 3) := by decide +kernel
theorem dX4_full_14 : decode cX4_full 14 = .ok (.iload_n 1, 1) := by decide +kernel
theorem dX4_full_15 : decode cX4_full 15 = .ok (.bipush 15, 2) := by decide +kernel
theorem dX4_full_17 : decode cX4_full 17 = .ok (.if_icmp .ne 6, 3) := by decide +kernel
theorem dX4_full_20 : decode cX4_full 20 = .ok (.bipush (-13), 2) := by decide +kernel
theorem dX4_full_22 : decode cX4_full 22 = .ok (.ireturn, 1) := by decide +kernel
theorem dX4_full_23 : decode cX4_full 23 = .ok (.aload_n 0, 1) := by decide +kernel
theorem dX4_full_24 : decode cX4_full 24 = .ok (.getfield 46, 3) := by decide +kernel
theorem dX4_full_27 : decode cX4_full 27 = .ok (.iload_n 1, 1) := by decide +kernel
theorem dX4_full_28 : decode cX4_full 28 = .ok (.aaload, 1) := by decide +kernel
theorem dX4_full_29 : decode cX4_full 29 = .ok (.getfield 102, 3) := by decide +kernel
theorem dX4_full_32 : decode cX4_full 32 = .ok (.istore_n 3, 1) := by decide +kernel
theorem dX4_full_33 : decode cX4_full 33 = .ok (.iload_n 2, 1) := by decide +kernel
theorem dX4_full_34 : decode cX4_full 34 = .ok (.ifCond .eq 15, 3) := by decide +kernel
theorem dX4_full_37 : decode cX4_full 37 = .ok (.aload_n 0, 1) := by decide +kernel
theorem dX4_full_38 : decode cX4_full 38 = .ok (.getfield 46, 3) := by decide +kernel
theorem dX4_full_41 : decode cX4_full 41 = .ok (.iload_n 1, 1) := by decide +kernel
theorem dX4_full_42 : decode cX4_full 42 = .ok (.aaload, 1) := by decide +kernel
theorem dX4_full_43 : decode cX4_full 43 = .ok (.invokevirtual 105, 3) := by decide +kernel
theorem dX4_full_46 : decode cX4_full 46 = .ok (.goto 12, 3) := by decide +kernel
theorem dX4_full_49 : decode cX4_full 49 = .ok (.aload_n 0, 1) := by decide +kernel
theorem dX4_full_50 : decode cX4_full 50 = .ok (.getfield 46, 3) := by decide +kernel
theorem dX4_full_53 : decode cX4_full 53 = .ok (.iload_n 1, 1) := by decide +kernel
theorem dX4_full_54 : decode cX4_full 54 = .ok (.aaload, 1) := by decide +kernel
theorem dX4_full_55 : decode cX4_full 55 = .ok (.invokevirtual 108, 3) := by decide +kernel
theorem dX4_full_58 : decode cX4_full 58 = .ok (.iload_n 3, 1) := by decide +kernel
theorem dX4_full_59 : decode cX4_full 59 = .ok (.ireturn, 1) := by decide +kernel
set_option maxRecDepth 20000 in
theorem ggX4_missed_X4_itemNumbered : GoodIn wsX4_missed wsX4_itemNumbered := goodIn_r _ [9, 10, 11, 20, 21, 22, 23, 24, 25, 26, 27, 28, 29, 30, 31, 32] (by decide +kernel) (by decide +kernel)
set_option maxRecDepth 20000 in
theorem gX4_missed_X4_itemNumbered : GoodIn wsX4_missed (wsV RX4 111 RX4 yX4_itemNumbered wsX4_itemNumbered) := goodIn_app (goodIn_of _ (by decide +kernel)) ggX4_missed_X4_itemNumbered
theorem dX4_missed_0 : decode cX4_missed 0 = .ok (.aload_n 0, 1) := by decide +kernel
theorem dX4_missed_1 : decode cX4_missed 1 = .ok (.iload_n 1, 1) := by decide +kernel
theorem dX4_missed_2 : decode cX4_missed 2 = .ok (.invokevirtual 111, 3) := by decide +kernel
theorem dX4_missed_5 : decode cX4_missed 5 = .ok (.astore_n 2, 1) := by decide +kernel
theorem dX4_missed_6 : decode cX4_missed 6 = .ok (.aload_n 2, 1) := by decide +kernel
theorem dX4_missed_7 : decode cX4_missed 7 = .ok (.ifnonnull 6, 3) := by decide +kernel
theorem dX4_missed_10 : decode cX4_missed 10 = .ok (.bipush (-11), 2) := by decide +kernel
theorem dX4_missed_12 : decode cX4_missed 12 = .ok (.ireturn, 1) := by decide +kernel
theorem dX4_missed_13 : decode cX4_missed 13 = .ok (.aload_n 2, 1) := by decide +kernel
theorem dX4_missed_14 : decode cX4_missed 14 = .ok (.getfield 115, 3) := by decide +kernel
theorem dX4_missed_17 : decode cX4_missed 17 = .ok (.getstatic 119, 3) := by decide +kernel
theorem dX4_missed_20 : decode cX4_missed 20 = .ok (.if_acmp .eq 6, 3) := by decide +kernel
theorem dX4_missed_23 : decode cX4_missed 23 = .ok (.bipush (-13), 2) := by decide +kernel
theorem dX4_missed_25 : decode cX4_missed 25 = .ok (.ireturn, 1) := by decide +kernel
theorem dX4_missed_26 : decode cX4_missed 26 = .ok (.aload_n 2, 1) := by decide +kernel
theorem dX4_missed_27 : decode cX4_missed 27 = .ok (.getstatic 124, 3) := by decide +kernel
theorem dX4_missed_30 : decode cX4_missed 30 = .ok (.putfield 115, 3) := by decide +kernel
theorem dX4_missed_33 : decode cX4_missed 33 = .ok (.aload_n 2, 1) := by decide +kernel
theorem dX4_missed_34 : decode cX4_missed 34 = .ok (.getfield 127, 3) := by decide +kernel
theorem dX4_missed_37 : decode cX4_missed 37 = .ok (.ireturn, 1) := by decide +kernel
set_option maxRecDepth 20000 in
theorem ggX4_found_X4_itemNumbered : GoodIn wsX4_found wsX4_itemNumbered := goodIn_r _ [12, 13, 14, 34, 35, 36, 37, 38, 39, 40, 41, 42, 43, 44, 45, 46] (by decide +kernel) (by decide +kernel)
set_option maxRecDepth 20000 in
theorem gX4_found_X4_itemNumbered : GoodIn wsX4_found (wsV RX4 111 RX4 yX4_itemNumbered wsX4_itemNumbered) := goodIn_app (goodIn_of _ (by decide +kernel)) ggX4_found_X4_itemNumbered
set_option maxRecDepth 20000 in
theorem ggX4_found_X4_isTray : GoodIn wsX4_found wsX4_isTray := goodIn_r _ [18, 19, 34, 35, 36, 37, 38, 39, 40, 41, 42, 43, 44, 45, 46] (by decide +kernel) (by decide +kernel)
set_option maxRecDepth 20000 in
theorem gX4_found_X4_isTray : GoodIn wsX4_found (wsV RX4 92 RX4 yX4_isTray wsX4_isTray) := goodIn_app (goodIn_of _ (by decide +kernel)) ggX4_found_X4_isTray
theorem dX4_found_0 : decode cX4_found 0 = .ok (.aload_n 0, 1) := by decide +kernel
theorem dX4_found_1 : decode cX4_found 1 = .ok (.iload_n 1, 1) := by decide +kernel
theorem dX4_found_2 : decode cX4_found 2 = .ok (.invokevirtual 111, 3) := by decide +kernel
theorem dX4_found_5 : decode cX4_found 5 = .ok (.astore_n 3, 1) := by decide +kernel
theorem dX4_found_6 : decode cX4_found 6 = .ok (.aload_n 3, 1) := by decide +kernel
theorem dX4_found_7 : decode cX4_found 7 = .ok (.ifnonnull 6, 3) := by decide +kernel
theorem dX4_found_10 : decode cX4_found 10 = .ok (.bipush (-11), 2) := by decide +kernel
theorem dX4_found_12 : decode cX4_found 12 = .ok (.ireturn, 1) := by decide +kernel
theorem dX4_found_13 : decode cX4_found 13 = .ok (.aload_n 3, 1) := by decide +kernel
theorem dX4_found_14 : decode cX4_found 14 = .ok (.getfield 115, 3) := by decide +kernel
theorem dX4_found_17 : decode cX4_found 17 = .ok (.getstatic 124, 3) := by decide +kernel
theorem dX4_found_20 : decode cX4_found 20 = .ok (.if_acmp .eq 6, 3) := by decide +kernel
theorem dX4_found_23 : decode cX4_found 23 = .ok (.bipush (-13), 2) := by decide +kernel
theorem dX4_found_25 : decode cX4_found 25 = .ok (.ireturn, 1) := by decide +kernel
theorem dX4_found_26 : decode cX4_found 26 = .ok (.aload_n 0, 1) := by decide +kernel
theorem dX4_found_27 : decode cX4_found 27 = .ok (.iload_n 2, 1) := by decide +kernel
theorem dX4_found_28 : decode cX4_found 28 = .ok (.invokevirtual 92, 3) := by decide +kernel
theorem dX4_found_31 : decode cX4_found 31 = .ok (.ifCond .ne 13, 3) := by decide +kernel
theorem dX4_found_34 : decode cX4_found 34 = .ok (.new 95, 3) := by decide +kernel
theorem dX4_found_37 : decode cX4_found 37 = .ok (.dup, 1) := by decide +kernel
theorem dX4_found_38 : decode cX4_found 38 = .ok (.ldc 97, 2) := by decide +kernel
theorem dX4_found_40 : decode cX4_found 40 = .ok (.invokespecial 99, 3) := by decide +kernel
theorem dX4_found_43 : decode cX4_found 43 = .ok (.athrow, 1) := by decide +kernel
theorem dX4_found_44 : decode cX4_found 44 = .ok (.aload_n 3, 1) := by decide +kernel
theorem dX4_found_45 : decode cX4_found 45 = .ok (.getfield 127, 3) := by decide +kernel
theorem dX4_found_48 : decode cX4_found 48 = .ok (.iload_n 2, 1) := by decide +kernel
theorem dX4_found_49 : decode cX4_found 49 = .ok (.if_icmp .eq 5, 3) := by decide +kernel
theorem dX4_found_52 : decode cX4_found 52 = .ok (.iconst 0, 1) := by decide +kernel
theorem dX4_found_53 : decode cX4_found 53 = .ok (.ireturn, 1) := by decide +kernel
theorem dX4_found_54 : decode cX4_found 54 = .ok (.aload_n 3, 1) := by decide +kernel
theorem dX4_found_55 : decode cX4_found 55 = .ok (.getstatic 119, 3) := by decide +kernel
theorem dX4_found_58 : decode cX4_found 58 = .ok (.putfield 115, 3) := by decide +kernel
theorem dX4_found_61 : decode cX4_found 61 = .ok (.iconst 1, 1) := by decide +kernel
theorem dX4_found_62 : decode cX4_found 62 = .ok (.ireturn, 1) := by decide +kernel
theorem dX4_speed_0 : decode cX4_speed 0 = .ok (.iload_n 1, 1) := by decide +kernel
theorem dX4_speed_1 : decode cX4_speed 1 = .ok (.iconst 1, 1) := by decide +kernel
theorem dX4_speed_2 : decode cX4_speed 2 = .ok (.if_icmp .lt 8, 3) := by decide +kernel
theorem dX4_speed_5 : decode cX4_speed 5 = .ok (.iload_n 1, 1) := by decide +kernel
theorem dX4_speed_6 : decode cX4_speed 6 = .ok (.iconst 5, 1) := by decide +kernel
theorem dX4_speed_7 : decode cX4_speed 7 = .ok (.if_icmp .le 6, 3) := by decide +kernel
theorem dX4_speed_10 : decode cX4_speed 10 = .ok (.bipush (-12), 2) := by decide +kernel
theorem dX4_speed_12 : decode cX4_speed 12 = .ok (.ireturn, 1) := by decide +kernel
theorem dX4_speed_13 : decode cX4_speed 13 = .ok (.aload_n 0, 1) := by decide +kernel
theorem dX4_speed_14 : decode cX4_speed 14 = .ok (.getfield 32, 3) := by decide +kernel
theorem dX4_speed_17 : decode cX4_speed 17 = .ok (.istore_n 2, 1) := by decide +kernel
theorem dX4_speed_18 : decode cX4_speed 18 = .ok (.aload_n 0, 1) := by decide +kernel
theorem dX4_speed_19 : decode cX4_speed 19 = .ok (.iload_n 1, 1) := by decide +kernel
theorem dX4_speed_20 : decode cX4_speed 20 = .ok (.putfield 32, 3) := by decide +kernel
theorem dX4_speed_23 : decode cX4_speed 23 = .ok (.iload_n 2, 1) := by decide +kernel
theorem dX4_speed_24 : decode cX4_speed 24 = .ok (.ireturn, 1) := by decide +kernel
set_option maxRecDepth 20000 in
theorem ggX4_share_X4_isInduct : GoodIn wsX4_share wsX4_isInduct := goodIn_r _ [7] (by decide +kernel) (by decide +kernel)
set_option maxRecDepth 20000 in
theorem gX4_share_X4_isInduct : GoodIn wsX4_share (va_wsS RX4 53 yX4_isInduct wsX4_isInduct) := goodIn_app (goodIn_of _ (by decide +kernel)) ggX4_share_X4_isInduct
theorem dX4_share_0 : decode cX4_share 0 = .ok (.iload_n 1, 1) := by decide +kernel
theorem dX4_share_1 : decode cX4_share 1 = .ok (.invokestatic 53, 3) := by decide +kernel
theorem dX4_share_4 : decode cX4_share 4 = .ok (.ifCond .eq 15, 3) := by decide +kernel
theorem dX4_share_7 : decode cX4_share 7 = .ok (.aload_n 0, 1) := by decide +kernel
theorem dX4_share_8 : decode cX4_share 8 = .ok (.getfield 37, 3) := by decide +kernel
theorem dX4_share_11 : decode cX4_share 11 = .ok (.iload_n 1, 1) := by decide +kernel
theorem dX4_share_12 : decode cX4_share 12 = .ok (.aaload, 1) := by decide +kernel
theorem dX4_share_13 : decode cX4_share 13 = .ok (.getfield 130, 3) := by decide +kernel
theorem dX4_share_16 : decode cX4_share 16 = .ok (.goto 6, 3) := by decide +kernel
theorem dX4_share_19 : decode cX4_share 19 = .ok (.ldc2_w 134, 3) := by decide +kernel
theorem dX4_share_22 : decode cX4_share 22 = .ok (.lreturn, 1) := by decide +kernel
set_option maxRecDepth 20000 in
theorem ggX4_round_X4_itemNumbered : GoodIn wsX4_round wsX4_itemNumbered := goodIn_r _ [6, 7, 8, 17, 18, 19, 20, 21, 22, 23, 24, 25, 26, 27, 28, 29] (by decide +kernel) (by decide +kernel)
set_option maxRecDepth 20000 in
theorem gX4_round_X4_itemNumbered : GoodIn wsX4_round (wsV RX4 111 RX4 yX4_itemNumbered wsX4_itemNumbered) := goodIn_app (goodIn_of _ (by decide +kernel)) ggX4_round_X4_itemNumbered
theorem dX4_round_0 : decode cX4_round 0 = .ok (.aload_n 0, 1) := by decide +kernel
theorem dX4_round_1 : decode cX4_round 1 = .ok (.iload_n 1, 1) := by decide +kernel
theorem dX4_round_2 : decode cX4_round 2 = .ok (.invokevirtual 111, 3) := by decide +kernel
theorem dX4_round_5 : decode cX4_round 5 = .ok (.astore_n 2, 1) := by decide +kernel
theorem dX4_round_6 : decode cX4_round 6 = .ok (.aload_n 2, 1) := by decide +kernel
theorem dX4_round_7 : decode cX4_round 7 = .ok (.ifnonnull 8, 3) := by decide +kernel
theorem dX4_round_10 : decode cX4_round 10 = .ok (.bipush (-11), 2) := by decide +kernel
theorem dX4_round_12 : decode cX4_round 12 = .ok (.goto 7, 3) := by decide +kernel
theorem dX4_round_15 : decode cX4_round 15 = .ok (.aload_n 2, 1) := by decide +kernel
theorem dX4_round_16 : decode cX4_round 16 = .ok (.getfield 89, 3) := by decide +kernel
theorem dX4_round_19 : decode cX4_round 19 = .ok (.ireturn, 1) := by decide +kernel
theorem dX4_bringWithin_0 : decode cX4_bringWithin 0 = .ok (.iconst 1, 1) := by decide +kernel
theorem dX4_bringWithin_1 : decode cX4_bringWithin 1 = .ok (.iload_n 1, 1) := by decide +kernel
theorem dX4_bringWithin_2 : decode cX4_bringWithin 2 = .ok (.iload_n 0, 1) := by decide +kernel
theorem dX4_bringWithin_3 : decode cX4_bringWithin 3 = .ok (.invokestatic 136, 3) := by decide +kernel
theorem dX4_bringWithin_6 : decode cX4_bringWithin 6 = .ok (.invokestatic 141, 3) := by decide +kernel
theorem dX4_bringWithin_9 : decode cX4_bringWithin 9 = .ok (.ireturn, 1) := by decide +kernel
theorem dX4_isInduct_0 : decode cX4_isInduct 0 = .ok (.iload_n 0, 1) := by decide +kernel
theorem dX4_isInduct_1 : decode cX4_isInduct 1 = .ok (.ifCond .lt 12, 3) := by decide +kernel
theorem dX4_isInduct_4 : decode cX4_isInduct 4 = .ok (.iload_n 0, 1) := by decide +kernel
theorem dX4_isInduct_5 : decode cX4_isInduct 5 = .ok (.iconst 4, 1) := by decide +kernel
theorem dX4_isInduct_6 : decode cX4_isInduct 6 = .ok (.if_icmp .ge 7, 3) := by decide +kernel
theorem dX4_isInduct_9 : decode cX4_isInduct 9 = .ok (.iconst 1, 1) := by decide +kernel
theorem dX4_isInduct_10 : decode cX4_isInduct 10 = .ok (.goto 4, 3) := by decide +kernel
theorem dX4_isInduct_13 : decode cX4_isInduct 13 = .ok (.iconst 0, 1) := by decide +kernel
theorem dX4_isInduct_14 : decode cX4_isInduct 14 = .ok (.ireturn, 1) := by decide +kernel
theorem dX4_isChute_0 : decode cX4_isChute 0 = .ok (.iload_n 0, 1) := by decide +kernel
theorem dX4_isChute_1 : decode cX4_isChute 1 = .ok (.ifCond .lt 13, 3) := by decide +kernel
theorem dX4_isChute_4 : decode cX4_isChute 4 = .ok (.iload_n 0, 1) := by decide +kernel
theorem dX4_isChute_5 : decode cX4_isChute 5 = .ok (.bipush 16, 2) := by decide +kernel
theorem dX4_isChute_7 : decode cX4_isChute 7 = .ok (.if_icmp .ge 7, 3) := by decide +kernel
theorem dX4_isChute_10 : decode cX4_isChute 10 = .ok (.iconst 1, 1) := by decide +kernel
theorem dX4_isChute_11 : decode cX4_isChute 11 = .ok (.goto 4, 3) := by decide +kernel
theorem dX4_isChute_14 : decode cX4_isChute 14 = .ok (.iconst 0, 1) := by decide +kernel
theorem dX4_isChute_15 : decode cX4_isChute 15 = .ok (.ireturn, 1) := by decide +kernel
theorem dX4_isTray_0 : decode cX4_isTray 0 = .ok (.iload_n 1, 1) := by decide +kernel
theorem dX4_isTray_1 : decode cX4_isTray 1 = .ok (.ifCond .lt 15, 3) := by decide +kernel
theorem dX4_isTray_4 : decode cX4_isTray 4 = .ok (.iload_n 1, 1) := by decide +kernel
theorem dX4_isTray_5 : decode cX4_isTray 5 = .ok (.aload_n 0, 1) := by decide +kernel
theorem dX4_isTray_6 : decode cX4_isTray 6 = .ok (.getfield 13, 3) := by decide +kernel
theorem dX4_isTray_9 : decode cX4_isTray 9 = .ok (.if_icmp .ge 7, 3) := by decide +kernel
theorem dX4_isTray_12 : decode cX4_isTray 12 = .ok (.iconst 1, 1) := by decide +kernel
theorem dX4_isTray_13 : decode cX4_isTray 13 = .ok (.goto 4, 3) := by decide +kernel
theorem dX4_isTray_16 : decode cX4_isTray 16 = .ok (.iconst 0, 1) := by decide +kernel
theorem dX4_isTray_17 : decode cX4_isTray 17 = .ok (.ireturn, 1) := by decide +kernel
theorem dX4_itemNumbered_0 : decode cX4_itemNumbered 0 = .ok (.iload_n 1, 1) := by decide +kernel
theorem dX4_itemNumbered_1 : decode cX4_itemNumbered 1 = .ok (.iconst 1, 1) := by decide +kernel
theorem dX4_itemNumbered_2 : decode cX4_itemNumbered 2 = .ok (.if_icmp .lt 11, 3) := by decide +kernel
theorem dX4_itemNumbered_5 : decode cX4_itemNumbered 5 = .ok (.iload_n 1, 1) := by decide +kernel
theorem dX4_itemNumbered_6 : decode cX4_itemNumbered 6 = .ok (.aload_n 0, 1) := by decide +kernel
theorem dX4_itemNumbered_7 : decode cX4_itemNumbered 7 = .ok (.getfield 60, 3) := by decide +kernel
theorem dX4_itemNumbered_10 : decode cX4_itemNumbered 10 = .ok (.if_icmp .le 7, 3) := by decide +kernel
theorem dX4_itemNumbered_13 : decode cX4_itemNumbered 13 = .ok (.aconst_null, 1) := by decide +kernel
theorem dX4_itemNumbered_14 : decode cX4_itemNumbered 14 = .ok (.goto 11, 3) := by decide +kernel
theorem dX4_itemNumbered_17 : decode cX4_itemNumbered 17 = .ok (.aload_n 0, 1) := by decide +kernel
theorem dX4_itemNumbered_18 : decode cX4_itemNumbered 18 = .ok (.getfield 26, 3) := by decide +kernel
theorem dX4_itemNumbered_21 : decode cX4_itemNumbered 21 = .ok (.iload_n 1, 1) := by decide +kernel
theorem dX4_itemNumbered_22 : decode cX4_itemNumbered 22 = .ok (.iconst 1, 1) := by decide +kernel
theorem dX4_itemNumbered_23 : decode cX4_itemNumbered 23 = .ok (.isub, 1) := by decide +kernel
theorem dX4_itemNumbered_24 : decode cX4_itemNumbered 24 = .ok (.aaload, 1) := by decide +kernel
theorem dX4_itemNumbered_25 : decode cX4_itemNumbered 25 = .ok (.areturn, 1) := by decide +kernel
set_option maxRecDepth 20000 in
theorem ggX4_runOneStep_X4_passChutes : GoodIn wsX4_runOneStep wsX4_passChutes := goodIn_r _ [10, 11, 12, 13, 14, 15, 16, 17, 18, 19, 9, 20, 2, 3, 21, 22, 23, 24, 25, 26, 27, 28, 29, 30, 31, 32, 33, 34, 35, 36, 37, 38, 39, 4, 40, 41, 42, 5, 43, 44, 45, 46, 47, 48, 49, 50, 51, 52, 53, 54, 86, 87, 88, 89, 90, 91, 92, 93, 94, 95, 96, 97, 98, 99, 100, 101, 102, 103, 104, 105, 106, 107, 108, 109, 110] (by decide +kernel) (by decide +kernel)
set_option maxRecDepth 20000 in
theorem gX4_runOneStep_X4_passChutes : GoodIn wsX4_runOneStep (wsV RX4 150 RX4 yX4_passChutes wsX4_passChutes) := goodIn_app (goodIn_of _ (by decide +kernel)) ggX4_runOneStep_X4_passChutes
set_option maxRecDepth 20000 in
theorem ggX4_runOneStep_X4_takeTurns : GoodIn wsX4_runOneStep wsX4_takeTurns := goodIn_r _ [58, 59, 60, 61, 62, 63, 9, 64, 65, 66, 67, 68, 69, 70, 14, 16, 15, 4, 71, 72, 73, 74, 75, 76, 77, 17, 18, 19, 20, 2, 3, 78, 79, 80, 81, 13, 50, 51, 52, 53, 54, 82, 83, 84, 85, 46, 47, 48, 49, 86, 87, 88, 89, 90, 91, 92, 93, 94, 95, 96, 97, 98, 111, 112, 113, 114, 115, 103, 104, 105, 106, 107, 108, 109, 110] (by decide +kernel) (by decide +kernel)
set_option maxRecDepth 20000 in
theorem gX4_runOneStep_X4_takeTurns : GoodIn wsX4_runOneStep (wsV RX4 156 RX4 yX4_takeTurns wsX4_takeTurns) := goodIn_app (goodIn_of _ (by decide +kernel)) ggX4_runOneStep_X4_takeTurns
theorem dX4_runOneStep_0 : decode cX4_runOneStep 0 = .ok (.iconst 0, 1) := by decide +kernel
theorem dX4_runOneStep_1 : decode cX4_runOneStep 1 = .ok (.istore_n 1, 1) := by decide +kernel
theorem dX4_runOneStep_2 : decode cX4_runOneStep 2 = .ok (.iload_n 1, 1) := by decide +kernel
theorem dX4_runOneStep_3 : decode cX4_runOneStep 3 = .ok (.aload_n 0, 1) := by decide +kernel
theorem dX4_runOneStep_4 : decode cX4_runOneStep 4 = .ok (.getfield 32, 3) := by decide +kernel
theorem dX4_runOneStep_7 : decode cX4_runOneStep 7 = .ok (.if_icmp .ge 47, 3) := by decide +kernel
theorem dX4_runOneStep_10 : decode cX4_runOneStep 10 = .ok (.aload_n 0, 1) := by decide +kernel
theorem dX4_runOneStep_11 : decode cX4_runOneStep 11 = .ok (.aload_n 0, 1) := by decide +kernel
theorem dX4_runOneStep_12 : decode cX4_runOneStep 12 = .ok (.getfield 144, 3) := by decide +kernel
theorem dX4_runOneStep_15 : decode cX4_runOneStep 15 = .ok (.iconst 1, 1) := by decide +kernel
theorem dX4_runOneStep_16 : decode cX4_runOneStep 16 = .ok (.iadd, 1) := by decide +kernel
theorem dX4_runOneStep_17 : decode cX4_runOneStep 17 = .ok (.aload_n 0, 1) := by decide +kernel
theorem dX4_runOneStep_18 : decode cX4_runOneStep 18 = .ok (.getfield 13, 3) := by decide +kernel
theorem dX4_runOneStep_21 : decode cX4_runOneStep 21 = .ok (.if_icmp .ge 12, 3) := by decide +kernel
theorem dX4_runOneStep_24 : decode cX4_runOneStep 24 = .ok (.aload_n 0, 1) := by decide +kernel
theorem dX4_runOneStep_25 : decode cX4_runOneStep 25 = .ok (.getfield 144, 3) := by decide +kernel
theorem dX4_runOneStep_28 : decode cX4_runOneStep 28 = .ok (.iconst 1, 1) := by decide +kernel
theorem dX4_runOneStep_29 : decode cX4_runOneStep 29 = .ok (.iadd, 1) := by decide +kernel
theorem dX4_runOneStep_30 : decode cX4_runOneStep 30 = .ok (.goto 4, 3) := by decide +kernel
theorem dX4_runOneStep_33 : decode cX4_runOneStep 33 = .ok (.iconst 0, 1) := by decide +kernel
theorem dX4_runOneStep_34 : decode cX4_runOneStep 34 = .ok (.putfield 144, 3) := by decide +kernel
theorem dX4_runOneStep_37 : decode cX4_runOneStep 37 = .ok (.aload_n 0, 1) := by decide +kernel
theorem dX4_runOneStep_38 : decode cX4_runOneStep 38 = .ok (.getfield 147, 3) := by decide +kernel
theorem dX4_runOneStep_41 : decode cX4_runOneStep 41 = .ok (.ifCond .le 7, 3) := by decide +kernel
theorem dX4_runOneStep_44 : decode cX4_runOneStep 44 = .ok (.aload_n 0, 1) := by decide +kernel
theorem dX4_runOneStep_45 : decode cX4_runOneStep 45 = .ok (.invokevirtual 150, 3) := by decide +kernel
theorem dX4_runOneStep_48 : decode cX4_runOneStep 48 = .ok (.iinc 1 1, 3) := by decide +kernel
theorem dX4_runOneStep_51 : decode cX4_runOneStep 51 = .ok (.goto (-49), 3) := by decide +kernel
theorem dX4_runOneStep_54 : decode cX4_runOneStep 54 = .ok (.aload_n 0, 1) := by decide +kernel
end
section
theorem dX4_runOneStep_55 : decode cX4_runOneStep 55 = .ok (.dup, 1) := by decide +kernel
theorem dX4_runOneStep_56 : decode cX4_runOneStep 56 = .ok (.getfield 153, 3) := by decide +kernel
theorem dX4_runOneStep_59 : decode cX4_runOneStep 59 = .ok (.iconst 1, 1) := by decide +kernel
theorem dX4_runOneStep_60 : decode cX4_runOneStep 60 = .ok (.iadd, 1) := by decide +kernel
theorem dX4_runOneStep_61 : decode cX4_runOneStep 61 = .ok (.putfield 153, 3) := by decide +kernel
theorem dX4_runOneStep_64 : decode cX4_runOneStep 64 = .ok (.aload_n 0, 1) := by decide +kernel
theorem dX4_runOneStep_65 : decode cX4_runOneStep 65 = .ok (.invokevirtual 156, 3) := by decide +kernel
theorem dX4_runOneStep_68 : decode cX4_runOneStep 68 = .ok (.return_, 1) := by decide +kernel
set_option maxRecDepth 20000 in
theorem ggX4_passChutes_X4_trayAt : GoodIn wsX4_passChutes wsX4_trayAt := goodIn_r _ [11, 12, 13, 50, 51, 52, 53, 54, 55, 56, 57, 58, 59, 60, 61, 62] (by decide +kernel) (by decide +kernel)
set_option maxRecDepth 20000 in
theorem gX4_passChutes_X4_trayAt : GoodIn wsX4_passChutes (wsV RX4 162 RX4 yX4_trayAt wsX4_trayAt) := goodIn_app (goodIn_of _ (by decide +kernel)) ggX4_passChutes_X4_trayAt
set_option maxRecDepth 20000 in
theorem ggX4_passChutes_X4_passChute : GoodIn wsX4_passChutes wsX4_passChute := goodIn_r _ [17, 18, 19, 20, 1, 21, 22, 23, 24, 25, 26, 27, 28, 29, 30, 31, 10, 32, 33, 34, 35, 5, 36, 37, 38, 39, 40, 41, 42, 43, 44, 3, 4, 45, 46, 47, 48, 49, 13, 67, 68, 69, 70, 71, 72, 73, 74, 50, 51, 52, 53, 54, 55, 56, 57, 58, 59, 60, 61, 62, 63, 64, 65, 66] (by decide +kernel) (by decide +kernel)
set_option maxRecDepth 20000 in
theorem gX4_passChutes_X4_passChute : GoodIn wsX4_passChutes (wsV RX4 166 RX4 yX4_passChute wsX4_passChute) := goodIn_app (goodIn_of _ (by decide +kernel)) ggX4_passChutes_X4_passChute
theorem dX4_passChutes_0 : decode cX4_passChutes 0 = .ok (.iconst 0, 1) := by decide +kernel
theorem dX4_passChutes_1 : decode cX4_passChutes 1 = .ok (.istore_n 1, 1) := by decide +kernel
theorem dX4_passChutes_2 : decode cX4_passChutes 2 = .ok (.iload_n 1, 1) := by decide +kernel
theorem dX4_passChutes_3 : decode cX4_passChutes 3 = .ok (.bipush 16, 2) := by decide +kernel
theorem dX4_passChutes_5 : decode cX4_passChutes 5 = .ok (.if_icmp .ge 58, 3) := by decide +kernel
theorem dX4_passChutes_8 : decode cX4_passChutes 8 = .ok (.aload_n 0, 1) := by decide +kernel
theorem dX4_passChutes_9 : decode cX4_passChutes 9 = .ok (.aload_n 0, 1) := by decide +kernel
theorem dX4_passChutes_10 : decode cX4_passChutes 10 = .ok (.getfield 46, 3) := by decide +kernel
theorem dX4_passChutes_13 : decode cX4_passChutes 13 = .ok (.iload_n 1, 1) := by decide +kernel
theorem dX4_passChutes_14 : decode cX4_passChutes 14 = .ok (.aaload, 1) := by decide +kernel
theorem dX4_passChutes_15 : decode cX4_passChutes 15 = .ok (.getfield 159, 3) := by decide +kernel
theorem dX4_passChutes_18 : decode cX4_passChutes 18 = .ok (.invokevirtual 162, 3) := by decide +kernel
theorem dX4_passChutes_21 : decode cX4_passChutes 21 = .ok (.istore_n 2, 1) := by decide +kernel
theorem dX4_passChutes_22 : decode cX4_passChutes 22 = .ok (.aload_n 0, 1) := by decide +kernel
theorem dX4_passChutes_23 : decode cX4_passChutes 23 = .ok (.getfield 22, 3) := by decide +kernel
theorem dX4_passChutes_26 : decode cX4_passChutes 26 = .ok (.iload_n 2, 1) := by decide +kernel
theorem dX4_passChutes_27 : decode cX4_passChutes 27 = .ok (.aaload, 1) := by decide +kernel
theorem dX4_passChutes_28 : decode cX4_passChutes 28 = .ok (.astore_n 3, 1) := by decide +kernel
theorem dX4_passChutes_29 : decode cX4_passChutes 29 = .ok (.aload_n 3, 1) := by decide +kernel
theorem dX4_passChutes_30 : decode cX4_passChutes 30 = .ok (.ifnull 27, 3) := by decide +kernel
theorem dX4_passChutes_33 : decode cX4_passChutes 33 = .ok (.aload_n 3, 1) := by decide +kernel
theorem dX4_passChutes_34 : decode cX4_passChutes 34 = .ok (.getfield 127, 3) := by decide +kernel
theorem dX4_passChutes_37 : decode cX4_passChutes 37 = .ok (.iload_n 2, 1) := by decide +kernel
theorem dX4_passChutes_38 : decode cX4_passChutes 38 = .ok (.if_icmp .ne 19, 3) := by decide +kernel
theorem dX4_passChutes_41 : decode cX4_passChutes 41 = .ok (.aload_n 3, 1) := by decide +kernel
theorem dX4_passChutes_42 : decode cX4_passChutes 42 = .ok (.getfield 115, 3) := by decide +kernel
theorem dX4_passChutes_45 : decode cX4_passChutes 45 = .ok (.getstatic 119, 3) := by decide +kernel
theorem dX4_passChutes_48 : decode cX4_passChutes 48 = .ok (.if_acmp .ne 9, 3) := by decide +kernel
theorem dX4_passChutes_51 : decode cX4_passChutes 51 = .ok (.aload_n 0, 1) := by decide +kernel
theorem dX4_passChutes_52 : decode cX4_passChutes 52 = .ok (.aload_n 3, 1) := by decide +kernel
theorem dX4_passChutes_53 : decode cX4_passChutes 53 = .ok (.iload_n 1, 1) := by decide +kernel
theorem dX4_passChutes_54 : decode cX4_passChutes 54 = .ok (.invokevirtual 166, 3) := by decide +kernel
theorem dX4_passChutes_57 : decode cX4_passChutes 57 = .ok (.iinc 1 1, 3) := by decide +kernel
theorem dX4_passChutes_60 : decode cX4_passChutes 60 = .ok (.goto (-58), 3) := by decide +kernel
theorem dX4_passChutes_63 : decode cX4_passChutes 63 = .ok (.return_, 1) := by decide +kernel
set_option maxRecDepth 20000 in
theorem ggX4_passChute_X0_hasRoom : GoodIn wsX4_passChute wsX0_hasRoom := goodIn_r _ [9, 10, 11, 12, 60, 61, 62, 63] (by decide +kernel) (by decide +kernel)
set_option maxRecDepth 20000 in
theorem gX4_passChute_X0_hasRoom : GoodIn wsX4_passChute (wsV RX4 173 RX0 yX0_hasRoom wsX0_hasRoom) := goodIn_app (goodIn_of _ (by decide +kernel)) ggX4_passChute_X0_hasRoom
set_option maxRecDepth 20000 in
theorem ggX4_passChute_X4_letOut : GoodIn wsX4_passChute wsX4_letOut := goodIn_r _ [17, 18, 4, 19, 20, 21, 22, 23, 24, 25, 26, 27, 28, 29, 16, 30, 31, 32, 33, 34, 35, 36, 37, 38, 47, 48, 49, 50, 51, 52, 53, 54, 55, 56, 57, 58, 59, 60, 61, 62, 63, 39, 40, 41, 42, 43, 44, 45, 46] (by decide +kernel) (by decide +kernel)
set_option maxRecDepth 20000 in
theorem gX4_passChute_X4_letOut : GoodIn wsX4_passChute (wsV RX4 176 RX4 yX4_letOut wsX4_letOut) := goodIn_app (goodIn_of _ (by decide +kernel)) ggX4_passChute_X4_letOut
theorem dX4_passChute_0 : decode cX4_passChute 0 = .ok (.aload_n 1, 1) := by decide +kernel
theorem dX4_passChute_1 : decode cX4_passChute 1 = .ok (.getfield 170, 3) := by decide +kernel
theorem dX4_passChute_4 : decode cX4_passChute 4 = .ok (.iload_n 2, 1) := by decide +kernel
theorem dX4_passChute_5 : decode cX4_passChute 5 = .ok (.if_icmp .ne 7, 3) := by decide +kernel
theorem dX4_passChute_8 : decode cX4_passChute 8 = .ok (.iconst 1, 1) := by decide +kernel
theorem dX4_passChute_9 : decode cX4_passChute 9 = .ok (.goto 4, 3) := by decide +kernel
theorem dX4_passChute_12 : decode cX4_passChute 12 = .ok (.iconst 0, 1) := by decide +kernel
theorem dX4_passChute_13 : decode cX4_passChute 13 = .ok (.istore_n 3, 1) := by decide +kernel
theorem dX4_passChute_14 : decode cX4_passChute 14 = .ok (.iload_n 2, 1) := by decide +kernel
theorem dX4_passChute_15 : decode cX4_passChute 15 = .ok (.bipush 15, 2) := by decide +kernel
theorem dX4_passChute_17 : decode cX4_passChute 17 = .ok (.if_icmp .ne 18, 3) := by decide +kernel
theorem dX4_passChute_20 : decode cX4_passChute 20 = .ok (.aload_n 1, 1) := by decide +kernel
theorem dX4_passChute_21 : decode cX4_passChute 21 = .ok (.getfield 89, 3) := by decide +kernel
theorem dX4_passChute_24 : decode cX4_passChute 24 = .ok (.aload_n 0, 1) := by decide +kernel
theorem dX4_passChute_25 : decode cX4_passChute 25 = .ok (.getfield 17, 3) := by decide +kernel
theorem dX4_passChute_28 : decode cX4_passChute 28 = .ok (.if_icmp .lt 7, 3) := by decide +kernel
theorem dX4_passChute_31 : decode cX4_passChute 31 = .ok (.iconst 1, 1) := by decide +kernel
theorem dX4_passChute_32 : decode cX4_passChute 32 = .ok (.goto 4, 3) := by decide +kernel
theorem dX4_passChute_35 : decode cX4_passChute 35 = .ok (.iconst 0, 1) := by decide +kernel
theorem dX4_passChute_36 : decode cX4_passChute 36 = .ok (.istore 4, 2) := by decide +kernel
theorem dX4_passChute_38 : decode cX4_passChute 38 = .ok (.iload_n 3, 1) := by decide +kernel
theorem dX4_passChute_39 : decode cX4_passChute 39 = .ok (.ifCond .ne 9, 3) := by decide +kernel
theorem dX4_passChute_42 : decode cX4_passChute 42 = .ok (.iload 4, 2) := by decide +kernel
theorem dX4_passChute_44 : decode cX4_passChute 44 = .ok (.ifCond .ne 4, 3) := by decide +kernel
theorem dX4_passChute_47 : decode cX4_passChute 47 = .ok (.return_, 1) := by decide +kernel
theorem dX4_passChute_48 : decode cX4_passChute 48 = .ok (.aload_n 0, 1) := by decide +kernel
theorem dX4_passChute_49 : decode cX4_passChute 49 = .ok (.getfield 46, 3) := by decide +kernel
theorem dX4_passChute_52 : decode cX4_passChute 52 = .ok (.iload_n 2, 1) := by decide +kernel
theorem dX4_passChute_53 : decode cX4_passChute 53 = .ok (.aaload, 1) := by decide +kernel
theorem dX4_passChute_54 : decode cX4_passChute 54 = .ok (.invokevirtual 173, 3) := by decide +kernel
theorem dX4_passChute_57 : decode cX4_passChute 57 = .ok (.ifCond .eq 12, 3) := by decide +kernel
theorem dX4_passChute_60 : decode cX4_passChute 60 = .ok (.aload_n 0, 1) := by decide +kernel
theorem dX4_passChute_61 : decode cX4_passChute 61 = .ok (.aload_n 1, 1) := by decide +kernel
theorem dX4_passChute_62 : decode cX4_passChute 62 = .ok (.iload_n 2, 1) := by decide +kernel
theorem dX4_passChute_63 : decode cX4_passChute 63 = .ok (.invokevirtual 176, 3) := by decide +kernel
theorem dX4_passChute_66 : decode cX4_passChute 66 = .ok (.goto 17, 3) := by decide +kernel
theorem dX4_passChute_69 : decode cX4_passChute 69 = .ok (.iload_n 3, 1) := by decide +kernel
theorem dX4_passChute_70 : decode cX4_passChute 70 = .ok (.ifCond .eq 13, 3) := by decide +kernel
theorem dX4_passChute_73 : decode cX4_passChute 73 = .ok (.aload_n 1, 1) := by decide +kernel
theorem dX4_passChute_74 : decode cX4_passChute 74 = .ok (.dup, 1) := by decide +kernel
theorem dX4_passChute_75 : decode cX4_passChute 75 = .ok (.getfield 89, 3) := by decide +kernel
theorem dX4_passChute_78 : decode cX4_passChute 78 = .ok (.iconst 1, 1) := by decide +kernel
theorem dX4_passChute_79 : decode cX4_passChute 79 = .ok (.iadd, 1) := by decide +kernel
theorem dX4_passChute_80 : decode cX4_passChute 80 = .ok (.putfield 89, 3) := by decide +kernel
theorem dX4_passChute_83 : decode cX4_passChute 83 = .ok (.return_, 1) := by decide +kernel
set_option maxRecDepth 20000 in
theorem ggX4_letOut_X4_setTraysOf : GoodIn wsX4_letOut wsX4_setTraysOf := goodIn_r _ [15, 16, 17, 18, 19, 20, 21, 14, 22, 23, 24, 25, 26, 27, 28, 29, 30, 31, 32, 33, 34, 35, 36, 41, 42, 43, 44, 45, 46, 47, 48] (by decide +kernel) (by decide +kernel)
set_option maxRecDepth 20000 in
theorem gX4_letOut_X4_setTraysOf : GoodIn wsX4_letOut (wsV RX4 179 RX4 yX4_setTraysOf wsX4_setTraysOf) := goodIn_app (goodIn_of _ (by decide +kernel)) ggX4_letOut_X4_setTraysOf
theorem dX4_letOut_0 : decode cX4_letOut 0 = .ok (.aload_n 0, 1) := by decide +kernel
theorem dX4_letOut_1 : decode cX4_letOut 1 = .ok (.aload_n 1, 1) := by decide +kernel
theorem dX4_letOut_2 : decode cX4_letOut 2 = .ok (.aconst_null, 1) := by decide +kernel
theorem dX4_letOut_3 : decode cX4_letOut 3 = .ok (.invokevirtual 179, 3) := by decide +kernel
theorem dX4_letOut_6 : decode cX4_letOut 6 = .ok (.aload_n 0, 1) := by decide +kernel
theorem dX4_letOut_7 : decode cX4_letOut 7 = .ok (.dup, 1) := by decide +kernel
theorem dX4_letOut_8 : decode cX4_letOut 8 = .ok (.getfield 147, 3) := by decide +kernel
theorem dX4_letOut_11 : decode cX4_letOut 11 = .ok (.iconst 1, 1) := by decide +kernel
theorem dX4_letOut_12 : decode cX4_letOut 12 = .ok (.isub, 1) := by decide +kernel
theorem dX4_letOut_13 : decode cX4_letOut 13 = .ok (.putfield 147, 3) := by decide +kernel
theorem dX4_letOut_16 : decode cX4_letOut 16 = .ok (.aload_n 0, 1) := by decide +kernel
theorem dX4_letOut_17 : decode cX4_letOut 17 = .ok (.getfield 46, 3) := by decide +kernel
theorem dX4_letOut_20 : decode cX4_letOut 20 = .ok (.iload_n 2, 1) := by decide +kernel
theorem dX4_letOut_21 : decode cX4_letOut 21 = .ok (.aaload, 1) := by decide +kernel
theorem dX4_letOut_22 : decode cX4_letOut 22 = .ok (.dup, 1) := by decide +kernel
theorem dX4_letOut_23 : decode cX4_letOut 23 = .ok (.getfield 102, 3) := by decide +kernel
theorem dX4_letOut_26 : decode cX4_letOut 26 = .ok (.iconst 1, 1) := by decide +kernel
theorem dX4_letOut_27 : decode cX4_letOut 27 = .ok (.iadd, 1) := by decide +kernel
theorem dX4_letOut_28 : decode cX4_letOut 28 = .ok (.putfield 102, 3) := by decide +kernel
theorem dX4_letOut_31 : decode cX4_letOut 31 = .ok (.aload_n 1, 1) := by decide +kernel
theorem dX4_letOut_32 : decode cX4_letOut 32 = .ok (.getstatic 183, 3) := by decide +kernel
theorem dX4_letOut_35 : decode cX4_letOut 35 = .ok (.putfield 115, 3) := by decide +kernel
theorem dX4_letOut_38 : decode cX4_letOut 38 = .ok (.aload_n 1, 1) := by decide +kernel
theorem dX4_letOut_39 : decode cX4_letOut 39 = .ok (.iload_n 2, 1) := by decide +kernel
theorem dX4_letOut_40 : decode cX4_letOut 40 = .ok (.putfield 83, 3) := by decide +kernel
theorem dX4_letOut_43 : decode cX4_letOut 43 = .ok (.aload_n 1, 1) := by decide +kernel
theorem dX4_letOut_44 : decode cX4_letOut 44 = .ok (.aload_n 0, 1) := by decide +kernel
theorem dX4_letOut_45 : decode cX4_letOut 45 = .ok (.getfield 153, 3) := by decide +kernel
theorem dX4_letOut_48 : decode cX4_letOut 48 = .ok (.putfield 86, 3) := by decide +kernel
theorem dX4_letOut_51 : decode cX4_letOut 51 = .ok (.aload_n 0, 1) := by decide +kernel
theorem dX4_letOut_52 : decode cX4_letOut 52 = .ok (.getfield 29, 3) := by decide +kernel
theorem dX4_letOut_55 : decode cX4_letOut 55 = .ok (.aload_n 0, 1) := by decide +kernel
theorem dX4_letOut_56 : decode cX4_letOut 56 = .ok (.getfield 77, 3) := by decide +kernel
theorem dX4_letOut_59 : decode cX4_letOut 59 = .ok (.aload_n 1, 1) := by decide +kernel
theorem dX4_letOut_60 : decode cX4_letOut 60 = .ok (.aastore, 1) := by decide +kernel
theorem dX4_letOut_61 : decode cX4_letOut 61 = .ok (.aload_n 0, 1) := by decide +kernel
theorem dX4_letOut_62 : decode cX4_letOut 62 = .ok (.dup, 1) := by decide +kernel
theorem dX4_letOut_63 : decode cX4_letOut 63 = .ok (.getfield 77, 3) := by decide +kernel
theorem dX4_letOut_66 : decode cX4_letOut 66 = .ok (.iconst 1, 1) := by decide +kernel
theorem dX4_letOut_67 : decode cX4_letOut 67 = .ok (.iadd, 1) := by decide +kernel
theorem dX4_letOut_68 : decode cX4_letOut 68 = .ok (.putfield 77, 3) := by decide +kernel
theorem dX4_letOut_71 : decode cX4_letOut 71 = .ok (.return_, 1) := by decide +kernel
set_option maxRecDepth 20000 in
theorem ggX4_takeTurns_X4_nextInTurn : GoodIn wsX4_takeTurns wsX4_nextInTurn := goodIn_r _ [7, 1, 2, 8, 49, 50, 51, 52, 53, 54, 55, 56, 57, 58, 59, 60, 61, 62, 63, 64, 65, 66] (by decide +kernel) (by decide +kernel)
set_option maxRecDepth 20000 in
theorem gX4_takeTurns_X4_nextInTurn : GoodIn wsX4_takeTurns (wsV RX4 190 RX4 yX4_nextInTurn wsX4_nextInTurn) := goodIn_app (goodIn_of _ (by decide +kernel)) ggX4_takeTurns_X4_nextInTurn
set_option maxRecDepth 20000 in
theorem ggX4_takeTurns_X4_putFirstOn : GoodIn wsX4_takeTurns wsX4_putFirstOn := goodIn_r _ [12, 13, 8, 14, 15, 16, 17, 18, 19, 20, 21, 22, 23, 24, 25, 26, 27, 6, 28, 29, 30, 31, 32, 33, 34, 35, 36, 37, 38, 39, 40, 41, 42, 43, 44, 45, 46, 47, 48, 62, 63, 64, 65, 66, 67, 68, 69, 70, 71, 72, 73, 74, 49, 50, 51, 52, 53, 54, 55, 56, 57, 58, 59, 60, 61] (by decide +kernel) (by decide +kernel)
set_option maxRecDepth 20000 in
theorem gX4_takeTurns_X4_putFirstOn : GoodIn wsX4_takeTurns (wsV RX4 194 RX4 yX4_putFirstOn wsX4_putFirstOn) := goodIn_app (goodIn_of _ (by decide +kernel)) ggX4_takeTurns_X4_putFirstOn
theorem dX4_takeTurns_0 : decode cX4_takeTurns 0 = .ok (.iconst 0, 1) := by decide +kernel
theorem dX4_takeTurns_1 : decode cX4_takeTurns 1 = .ok (.istore_n 1, 1) := by decide +kernel
theorem dX4_takeTurns_2 : decode cX4_takeTurns 2 = .ok (.iload_n 1, 1) := by decide +kernel
theorem dX4_takeTurns_3 : decode cX4_takeTurns 3 = .ok (.iconst 4, 1) := by decide +kernel
theorem dX4_takeTurns_4 : decode cX4_takeTurns 4 = .ok (.if_icmp .ge 19, 3) := by decide +kernel
theorem dX4_takeTurns_7 : decode cX4_takeTurns 7 = .ok (.aload_n 0, 1) := by decide +kernel
theorem dX4_takeTurns_8 : decode cX4_takeTurns 8 = .ok (.getfield 37, 3) := by decide +kernel
theorem dX4_takeTurns_11 : decode cX4_takeTurns 11 = .ok (.iload_n 1, 1) := by decide +kernel
theorem dX4_takeTurns_12 : decode cX4_takeTurns 12 = .ok (.aaload, 1) := by decide +kernel
theorem dX4_takeTurns_13 : decode cX4_takeTurns 13 = .ok (.iconst 0, 1) := by decide +kernel
theorem dX4_takeTurns_14 : decode cX4_takeTurns 14 = .ok (.putfield 186, 3) := by decide +kernel
theorem dX4_takeTurns_17 : decode cX4_takeTurns 17 = .ok (.iinc 1 1, 3) := by decide +kernel
theorem dX4_takeTurns_20 : decode cX4_takeTurns 20 = .ok (.goto (-18), 3) := by decide +kernel
theorem dX4_takeTurns_23 : decode cX4_takeTurns 23 = .ok (.iconst 0, 1) := by decide +kernel
theorem dX4_takeTurns_24 : decode cX4_takeTurns 24 = .ok (.istore_n 1, 1) := by decide +kernel
theorem dX4_takeTurns_25 : decode cX4_takeTurns 25 = .ok (.iload_n 1, 1) := by decide +kernel
theorem dX4_takeTurns_26 : decode cX4_takeTurns 26 = .ok (.iconst 4, 1) := by decide +kernel
theorem dX4_takeTurns_27 : decode cX4_takeTurns 27 = .ok (.if_icmp .ge 28, 3) := by decide +kernel
theorem dX4_takeTurns_30 : decode cX4_takeTurns 30 = .ok (.aload_n 0, 1) := by decide +kernel
theorem dX4_takeTurns_31 : decode cX4_takeTurns 31 = .ok (.invokevirtual 190, 3) := by decide +kernel
theorem dX4_takeTurns_34 : decode cX4_takeTurns 34 = .ok (.astore_n 2, 1) := by decide +kernel
theorem dX4_takeTurns_35 : decode cX4_takeTurns 35 = .ok (.aload_n 2, 1) := by decide +kernel
theorem dX4_takeTurns_36 : decode cX4_takeTurns 36 = .ok (.ifnull 13, 3) := by decide +kernel
theorem dX4_takeTurns_39 : decode cX4_takeTurns 39 = .ok (.aload_n 2, 1) := by decide +kernel
theorem dX4_takeTurns_40 : decode cX4_takeTurns 40 = .ok (.iconst 1, 1) := by decide +kernel
theorem dX4_takeTurns_41 : decode cX4_takeTurns 41 = .ok (.putfield 186, 3) := by decide +kernel
theorem dX4_takeTurns_44 : decode cX4_takeTurns 44 = .ok (.aload_n 0, 1) := by decide +kernel
theorem dX4_takeTurns_45 : decode cX4_takeTurns 45 = .ok (.aload_n 2, 1) := by decide +kernel
theorem dX4_takeTurns_46 : decode cX4_takeTurns 46 = .ok (.invokevirtual 194, 3) := by decide +kernel
theorem dX4_takeTurns_49 : decode cX4_takeTurns 49 = .ok (.iinc 1 1, 3) := by decide +kernel
theorem dX4_takeTurns_52 : decode cX4_takeTurns 52 = .ok (.goto (-27), 3) := by decide +kernel
theorem dX4_takeTurns_55 : decode cX4_takeTurns 55 = .ok (.return_, 1) := by decide +kernel
theorem dX4_nextInTurn_0 : decode cX4_nextInTurn 0 = .ok (.aconst_null, 1) := by decide +kernel
theorem dX4_nextInTurn_1 : decode cX4_nextInTurn 1 = .ok (.astore_n 1, 1) := by decide +kernel
theorem dX4_nextInTurn_2 : decode cX4_nextInTurn 2 = .ok (.iconst 0, 1) := by decide +kernel
theorem dX4_nextInTurn_3 : decode cX4_nextInTurn 3 = .ok (.istore_n 2, 1) := by decide +kernel
theorem dX4_nextInTurn_4 : decode cX4_nextInTurn 4 = .ok (.iload_n 2, 1) := by decide +kernel
theorem dX4_nextInTurn_5 : decode cX4_nextInTurn 5 = .ok (.iconst 4, 1) := by decide +kernel
theorem dX4_nextInTurn_6 : decode cX4_nextInTurn 6 = .ok (.if_icmp .ge 41, 3) := by decide +kernel
theorem dX4_nextInTurn_9 : decode cX4_nextInTurn 9 = .ok (.aload_n 0, 1) := by decide +kernel
theorem dX4_nextInTurn_10 : decode cX4_nextInTurn 10 = .ok (.getfield 37, 3) := by decide +kernel
theorem dX4_nextInTurn_13 : decode cX4_nextInTurn 13 = .ok (.iload_n 2, 1) := by decide +kernel
theorem dX4_nextInTurn_14 : decode cX4_nextInTurn 14 = .ok (.aaload, 1) := by decide +kernel
theorem dX4_nextInTurn_15 : decode cX4_nextInTurn 15 = .ok (.astore_n 3, 1) := by decide +kernel
theorem dX4_nextInTurn_16 : decode cX4_nextInTurn 16 = .ok (.aload_n 3, 1) := by decide +kernel
theorem dX4_nextInTurn_17 : decode cX4_nextInTurn 17 = .ok (.getfield 186, 3) := by decide +kernel
theorem dX4_nextInTurn_20 : decode cX4_nextInTurn 20 = .ok (.ifCond .ne 21, 3) := by decide +kernel
theorem dX4_nextInTurn_23 : decode cX4_nextInTurn 23 = .ok (.aload_n 1, 1) := by decide +kernel
theorem dX4_nextInTurn_24 : decode cX4_nextInTurn 24 = .ok (.ifnull 15, 3) := by decide +kernel
theorem dX4_nextInTurn_27 : decode cX4_nextInTurn 27 = .ok (.aload_n 3, 1) := by decide +kernel
theorem dX4_nextInTurn_28 : decode cX4_nextInTurn 28 = .ok (.getfield 130, 3) := by decide +kernel
theorem dX4_nextInTurn_31 : decode cX4_nextInTurn 31 = .ok (.aload_n 1, 1) := by decide +kernel
theorem dX4_nextInTurn_32 : decode cX4_nextInTurn 32 = .ok (.getfield 130, 3) := by decide +kernel
theorem dX4_nextInTurn_35 : decode cX4_nextInTurn 35 = .ok (.lcmp, 1) := by decide +kernel
theorem dX4_nextInTurn_36 : decode cX4_nextInTurn 36 = .ok (.ifCond .ge 5, 3) := by decide +kernel
theorem dX4_nextInTurn_39 : decode cX4_nextInTurn 39 = .ok (.aload_n 3, 1) := by decide +kernel
theorem dX4_nextInTurn_40 : decode cX4_nextInTurn 40 = .ok (.astore_n 1, 1) := by decide +kernel
theorem dX4_nextInTurn_41 : decode cX4_nextInTurn 41 = .ok (.iinc 2 1, 3) := by decide +kernel
theorem dX4_nextInTurn_44 : decode cX4_nextInTurn 44 = .ok (.goto (-40), 3) := by decide +kernel
theorem dX4_nextInTurn_47 : decode cX4_nextInTurn 47 = .ok (.aload_n 1, 1) := by decide +kernel
theorem dX4_nextInTurn_48 : decode cX4_nextInTurn 48 = .ok (.areturn, 1) := by decide +kernel
set_option maxRecDepth 20000 in
theorem ggX4_putFirstOn_X1_first : GoodIn wsX4_putFirstOn wsX1_first := goodIn_r _ [11, 12, 13, 39, 40, 41, 42, 43] (by decide +kernel) (by decide +kernel)
set_option maxRecDepth 20000 in
theorem gX4_putFirstOn_X1_first : GoodIn wsX4_putFirstOn (wsV RX4 198 RX1 yX1_first wsX1_first) := goodIn_app (goodIn_of _ (by decide +kernel)) ggX4_putFirstOn_X1_first
set_option maxRecDepth 20000 in
theorem ggX4_putFirstOn_X4_trayAt : GoodIn wsX4_putFirstOn wsX4_trayAt := goodIn_r _ [18, 19, 20, 52, 53, 54, 55, 56, 57, 58, 59, 60, 61, 62, 63, 64] (by decide +kernel) (by decide +kernel)
set_option maxRecDepth 20000 in
theorem gX4_putFirstOn_X4_trayAt : GoodIn wsX4_putFirstOn (wsV RX4 162 RX4 yX4_trayAt wsX4_trayAt) := goodIn_app (goodIn_of _ (by decide +kernel)) ggX4_putFirstOn_X4_trayAt
set_option maxRecDepth 20000 in
theorem ggX4_putFirstOn_X4_isFreeFor : GoodIn wsX4_putFirstOn wsX4_isFreeFor := goodIn_r _ [24, 25, 26, 20, 27, 28, 29, 17, 30, 52, 53, 54, 55, 56, 57, 58, 59, 60, 61, 62, 63, 64, 44, 45, 46, 47, 48, 49, 50, 51] (by decide +kernel) (by decide +kernel)
set_option maxRecDepth 20000 in
theorem gX4_putFirstOn_X4_isFreeFor : GoodIn wsX4_putFirstOn (wsV RX4 203 RX4 yX4_isFreeFor wsX4_isFreeFor) := goodIn_app (goodIn_of _ (by decide +kernel)) ggX4_putFirstOn_X4_isFreeFor
set_option maxRecDepth 20000 in
theorem ggX4_putFirstOn_X1_removeFirst : GoodIn wsX4_putFirstOn wsX1_removeFirst := goodIn_r _ [34, 12, 13, 39, 40, 41, 42, 43] (by decide +kernel) (by decide +kernel)
set_option maxRecDepth 20000 in
theorem gX4_putFirstOn_X1_removeFirst : GoodIn wsX4_putFirstOn (wsV RX4 207 RX1 yX1_removeFirst wsX1_removeFirst) := goodIn_app (goodIn_of _ (by decide +kernel)) ggX4_putFirstOn_X1_removeFirst
set_option maxRecDepth 20000 in
theorem ggX4_putFirstOn_X4_setTraysOf : GoodIn wsX4_putFirstOn wsX4_setTraysOf := goodIn_r _ [38, 25, 3, 26, 27, 28, 29, 17, 30, 20, 52, 53, 54, 55, 56, 57, 58, 59, 60, 61, 62, 63, 64, 44, 45, 46, 47, 48, 49, 50, 51] (by decide +kernel) (by decide +kernel)
set_option maxRecDepth 20000 in
theorem gX4_putFirstOn_X4_setTraysOf : GoodIn wsX4_putFirstOn (wsV RX4 179 RX4 yX4_setTraysOf wsX4_setTraysOf) := goodIn_app (goodIn_of _ (by decide +kernel)) ggX4_putFirstOn_X4_setTraysOf
theorem dX4_putFirstOn_0 : decode cX4_putFirstOn 0 = .ok (.aload_n 1, 1) := by decide +kernel
theorem dX4_putFirstOn_1 : decode cX4_putFirstOn 1 = .ok (.invokevirtual 198, 3) := by decide +kernel
theorem dX4_putFirstOn_4 : decode cX4_putFirstOn 4 = .ok (.astore_n 2, 1) := by decide +kernel
theorem dX4_putFirstOn_5 : decode cX4_putFirstOn 5 = .ok (.aload_n 0, 1) := by decide +kernel
theorem dX4_putFirstOn_6 : decode cX4_putFirstOn 6 = .ok (.aload_n 1, 1) := by decide +kernel
theorem dX4_putFirstOn_7 : decode cX4_putFirstOn 7 = .ok (.getfield 202, 3) := by decide +kernel
theorem dX4_putFirstOn_10 : decode cX4_putFirstOn 10 = .ok (.invokevirtual 162, 3) := by decide +kernel
theorem dX4_putFirstOn_13 : decode cX4_putFirstOn 13 = .ok (.istore_n 3, 1) := by decide +kernel
theorem dX4_putFirstOn_14 : decode cX4_putFirstOn 14 = .ok (.aload_n 2, 1) := by decide +kernel
theorem dX4_putFirstOn_15 : decode cX4_putFirstOn 15 = .ok (.ifnull 12, 3) := by decide +kernel
theorem dX4_putFirstOn_18 : decode cX4_putFirstOn 18 = .ok (.aload_n 0, 1) := by decide +kernel
theorem dX4_putFirstOn_19 : decode cX4_putFirstOn 19 = .ok (.aload_n 2, 1) := by decide +kernel
theorem dX4_putFirstOn_20 : decode cX4_putFirstOn 20 = .ok (.iload_n 3, 1) := by decide +kernel
theorem dX4_putFirstOn_21 : decode cX4_putFirstOn 21 = .ok (.invokevirtual 203, 3) := by decide +kernel
theorem dX4_putFirstOn_24 : decode cX4_putFirstOn 24 = .ok (.ifCond .ne 4, 3) := by decide +kernel
theorem dX4_putFirstOn_27 : decode cX4_putFirstOn 27 = .ok (.return_, 1) := by decide +kernel
theorem dX4_putFirstOn_28 : decode cX4_putFirstOn 28 = .ok (.aload_n 1, 1) := by decide +kernel
theorem dX4_putFirstOn_29 : decode cX4_putFirstOn 29 = .ok (.invokevirtual 207, 3) := by decide +kernel
theorem dX4_putFirstOn_32 : decode cX4_putFirstOn 32 = .ok (.aload_n 1, 1) := by decide +kernel
theorem dX4_putFirstOn_33 : decode cX4_putFirstOn 33 = .ok (.dup, 1) := by decide +kernel
theorem dX4_putFirstOn_34 : decode cX4_putFirstOn 34 = .ok (.getfield 130, 3) := by decide +kernel
theorem dX4_putFirstOn_37 : decode cX4_putFirstOn 37 = .ok (.lconst 1, 1) := by decide +kernel
theorem dX4_putFirstOn_38 : decode cX4_putFirstOn 38 = .ok (.ladd, 1) := by decide +kernel
theorem dX4_putFirstOn_39 : decode cX4_putFirstOn 39 = .ok (.putfield 130, 3) := by decide +kernel
theorem dX4_putFirstOn_42 : decode cX4_putFirstOn 42 = .ok (.aload_n 2, 1) := by decide +kernel
theorem dX4_putFirstOn_43 : decode cX4_putFirstOn 43 = .ok (.iload_n 3, 1) := by decide +kernel
theorem dX4_putFirstOn_44 : decode cX4_putFirstOn 44 = .ok (.putfield 127, 3) := by decide +kernel
theorem dX4_putFirstOn_47 : decode cX4_putFirstOn 47 = .ok (.aload_n 2, 1) := by decide +kernel
theorem dX4_putFirstOn_48 : decode cX4_putFirstOn 48 = .ok (.getstatic 119, 3) := by decide +kernel
theorem dX4_putFirstOn_51 : decode cX4_putFirstOn 51 = .ok (.putfield 115, 3) := by decide +kernel
theorem dX4_putFirstOn_54 : decode cX4_putFirstOn 54 = .ok (.aload_n 0, 1) := by decide +kernel
theorem dX4_putFirstOn_55 : decode cX4_putFirstOn 55 = .ok (.aload_n 2, 1) := by decide +kernel
theorem dX4_putFirstOn_56 : decode cX4_putFirstOn 56 = .ok (.aload_n 2, 1) := by decide +kernel
theorem dX4_putFirstOn_57 : decode cX4_putFirstOn 57 = .ok (.invokevirtual 179, 3) := by decide +kernel
theorem dX4_putFirstOn_60 : decode cX4_putFirstOn 60 = .ok (.aload_n 0, 1) := by decide +kernel
theorem dX4_putFirstOn_61 : decode cX4_putFirstOn 61 = .ok (.dup, 1) := by decide +kernel
theorem dX4_putFirstOn_62 : decode cX4_putFirstOn 62 = .ok (.getfield 147, 3) := by decide +kernel
theorem dX4_putFirstOn_65 : decode cX4_putFirstOn 65 = .ok (.iconst 1, 1) := by decide +kernel
theorem dX4_putFirstOn_66 : decode cX4_putFirstOn 66 = .ok (.iadd, 1) := by decide +kernel
theorem dX4_putFirstOn_67 : decode cX4_putFirstOn 67 = .ok (.putfield 147, 3) := by decide +kernel
theorem dX4_putFirstOn_70 : decode cX4_putFirstOn 70 = .ok (.return_, 1) := by decide +kernel
set_option maxRecDepth 20000 in
theorem ggX4_isFreeFor_X4_trayBehind : GoodIn wsX4_isFreeFor wsX4_trayBehind := goodIn_r _ [8, 3, 9, 10, 11, 12, 13, 14, 15, 16, 17, 18, 19, 20, 21] (by decide +kernel) (by decide +kernel)
set_option maxRecDepth 20000 in
theorem gX4_isFreeFor_X4_trayBehind : GoodIn wsX4_isFreeFor (wsV RX4 213 RX4 yX4_trayBehind wsX4_trayBehind) := goodIn_app (goodIn_of _ (by decide +kernel)) ggX4_isFreeFor_X4_trayBehind
theorem dX4_isFreeFor_0 : decode cX4_isFreeFor 0 = .ok (.aload_n 0, 1) := by decide +kernel
theorem dX4_isFreeFor_1 : decode cX4_isFreeFor 1 = .ok (.getfield 22, 3) := by decide +kernel
theorem dX4_isFreeFor_4 : decode cX4_isFreeFor 4 = .ok (.iload_n 2, 1) := by decide +kernel
theorem dX4_isFreeFor_5 : decode cX4_isFreeFor 5 = .ok (.aaload, 1) := by decide +kernel
theorem dX4_isFreeFor_6 : decode cX4_isFreeFor 6 = .ok (.ifnull 5, 3) := by decide +kernel
theorem dX4_isFreeFor_9 : decode cX4_isFreeFor 9 = .ok (.iconst 0, 1) := by decide +kernel
theorem dX4_isFreeFor_10 : decode cX4_isFreeFor 10 = .ok (.ireturn, 1) := by decide +kernel
theorem dX4_isFreeFor_11 : decode cX4_isFreeFor 11 = .ok (.aload_n 1, 1) := by decide +kernel
theorem dX4_isFreeFor_12 : decode cX4_isFreeFor 12 = .ok (.getfield 210, 3) := by decide +kernel
theorem dX4_isFreeFor_15 : decode cX4_isFreeFor 15 = .ok (.iconst 2, 1) := by decide +kernel
theorem dX4_isFreeFor_16 : decode cX4_isFreeFor 16 = .ok (.if_icmp .lt 24, 3) := by decide +kernel
theorem dX4_isFreeFor_19 : decode cX4_isFreeFor 19 = .ok (.aload_n 0, 1) := by decide +kernel
theorem dX4_isFreeFor_20 : decode cX4_isFreeFor 20 = .ok (.getfield 13, 3) := by decide +kernel
theorem dX4_isFreeFor_23 : decode cX4_isFreeFor 23 = .ok (.iconst 1, 1) := by decide +kernel
theorem dX4_isFreeFor_24 : decode cX4_isFreeFor 24 = .ok (.if_icmp .le 20, 3) := by decide +kernel
theorem dX4_isFreeFor_27 : decode cX4_isFreeFor 27 = .ok (.aload_n 0, 1) := by decide +kernel
theorem dX4_isFreeFor_28 : decode cX4_isFreeFor 28 = .ok (.getfield 22, 3) := by decide +kernel
theorem dX4_isFreeFor_31 : decode cX4_isFreeFor 31 = .ok (.aload_n 0, 1) := by decide +kernel
theorem dX4_isFreeFor_32 : decode cX4_isFreeFor 32 = .ok (.iload_n 2, 1) := by decide +kernel
theorem dX4_isFreeFor_33 : decode cX4_isFreeFor 33 = .ok (.invokevirtual 213, 3) := by decide +kernel
theorem dX4_isFreeFor_36 : decode cX4_isFreeFor 36 = .ok (.aaload, 1) := by decide +kernel
theorem dX4_isFreeFor_37 : decode cX4_isFreeFor 37 = .ok (.ifnonnull 7, 3) := by decide +kernel
theorem dX4_isFreeFor_40 : decode cX4_isFreeFor 40 = .ok (.iconst 1, 1) := by decide +kernel
theorem dX4_isFreeFor_41 : decode cX4_isFreeFor 41 = .ok (.goto 4, 3) := by decide +kernel
theorem dX4_isFreeFor_44 : decode cX4_isFreeFor 44 = .ok (.iconst 0, 1) := by decide +kernel
theorem dX4_isFreeFor_45 : decode cX4_isFreeFor 45 = .ok (.ireturn, 1) := by decide +kernel
set_option maxRecDepth 20000 in
theorem ggX4_setTraysOf_X4_trayBehind : GoodIn wsX4_setTraysOf wsX4_trayBehind := goodIn_r _ [8, 9, 10, 11, 12, 13, 14, 15, 16, 17, 18, 19, 20, 21, 22] (by decide +kernel) (by decide +kernel)
set_option maxRecDepth 20000 in
theorem gX4_setTraysOf_X4_trayBehind : GoodIn wsX4_setTraysOf (wsV RX4 213 RX4 yX4_trayBehind wsX4_trayBehind) := goodIn_app (goodIn_of _ (by decide +kernel)) ggX4_setTraysOf_X4_trayBehind
theorem dX4_setTraysOf_0 : decode cX4_setTraysOf 0 = .ok (.aload_n 0, 1) := by decide +kernel
theorem dX4_setTraysOf_1 : decode cX4_setTraysOf 1 = .ok (.getfield 22, 3) := by decide +kernel
theorem dX4_setTraysOf_4 : decode cX4_setTraysOf 4 = .ok (.aload_n 1, 1) := by decide +kernel
theorem dX4_setTraysOf_5 : decode cX4_setTraysOf 5 = .ok (.getfield 127, 3) := by decide +kernel
theorem dX4_setTraysOf_8 : decode cX4_setTraysOf 8 = .ok (.aload_n 2, 1) := by decide +kernel
theorem dX4_setTraysOf_9 : decode cX4_setTraysOf 9 = .ok (.aastore, 1) := by decide +kernel
theorem dX4_setTraysOf_10 : decode cX4_setTraysOf 10 = .ok (.aload_n 1, 1) := by decide +kernel
theorem dX4_setTraysOf_11 : decode cX4_setTraysOf 11 = .ok (.getfield 210, 3) := by decide +kernel
theorem dX4_setTraysOf_14 : decode cX4_setTraysOf 14 = .ok (.iconst 2, 1) := by decide +kernel
theorem dX4_setTraysOf_15 : decode cX4_setTraysOf 15 = .ok (.if_icmp .ne 17, 3) := by decide +kernel
theorem dX4_setTraysOf_18 : decode cX4_setTraysOf 18 = .ok (.aload_n 0, 1) := by decide +kernel
theorem dX4_setTraysOf_19 : decode cX4_setTraysOf 19 = .ok (.getfield 22, 3) := by decide +kernel
theorem dX4_setTraysOf_22 : decode cX4_setTraysOf 22 = .ok (.aload_n 0, 1) := by decide +kernel
theorem dX4_setTraysOf_23 : decode cX4_setTraysOf 23 = .ok (.aload_n 1, 1) := by decide +kernel
theorem dX4_setTraysOf_24 : decode cX4_setTraysOf 24 = .ok (.getfield 127, 3) := by decide +kernel
theorem dX4_setTraysOf_27 : decode cX4_setTraysOf 27 = .ok (.invokevirtual 213, 3) := by decide +kernel
theorem dX4_setTraysOf_30 : decode cX4_setTraysOf 30 = .ok (.aload_n 2, 1) := by decide +kernel
theorem dX4_setTraysOf_31 : decode cX4_setTraysOf 31 = .ok (.aastore, 1) := by decide +kernel
theorem dX4_setTraysOf_32 : decode cX4_setTraysOf 32 = .ok (.return_, 1) := by decide +kernel
theorem dX4_trayAt_0 : decode cX4_trayAt 0 = .ok (.iload_n 1, 1) := by decide +kernel
theorem dX4_trayAt_1 : decode cX4_trayAt 1 = .ok (.aload_n 0, 1) := by decide +kernel
theorem dX4_trayAt_2 : decode cX4_trayAt 2 = .ok (.getfield 144, 3) := by decide +kernel
theorem dX4_trayAt_5 : decode cX4_trayAt 5 = .ok (.isub, 1) := by decide +kernel
theorem dX4_trayAt_6 : decode cX4_trayAt 6 = .ok (.istore_n 2, 1) := by decide +kernel
theorem dX4_trayAt_7 : decode cX4_trayAt 7 = .ok (.iload_n 2, 1) := by decide +kernel
theorem dX4_trayAt_8 : decode cX4_trayAt 8 = .ok (.ifCond .ge 12, 3) := by decide +kernel
theorem dX4_trayAt_11 : decode cX4_trayAt 11 = .ok (.iload_n 2, 1) := by decide +kernel
theorem dX4_trayAt_12 : decode cX4_trayAt 12 = .ok (.aload_n 0, 1) := by decide +kernel
theorem dX4_trayAt_13 : decode cX4_trayAt 13 = .ok (.getfield 13, 3) := by decide +kernel
theorem dX4_trayAt_16 : decode cX4_trayAt 16 = .ok (.iadd, 1) := by decide +kernel
theorem dX4_trayAt_17 : decode cX4_trayAt 17 = .ok (.goto 4, 3) := by decide +kernel
theorem dX4_trayAt_20 : decode cX4_trayAt 20 = .ok (.iload_n 2, 1) := by decide +kernel
theorem dX4_trayAt_21 : decode cX4_trayAt 21 = .ok (.ireturn, 1) := by decide +kernel
theorem dX4_trayBehind_0 : decode cX4_trayBehind 0 = .ok (.iload_n 1, 1) := by decide +kernel
theorem dX4_trayBehind_1 : decode cX4_trayBehind 1 = .ok (.ifCond .le 9, 3) := by decide +kernel
theorem dX4_trayBehind_4 : decode cX4_trayBehind 4 = .ok (.iload_n 1, 1) := by decide +kernel
theorem dX4_trayBehind_5 : decode cX4_trayBehind 5 = .ok (.iconst 1, 1) := by decide +kernel
theorem dX4_trayBehind_6 : decode cX4_trayBehind 6 = .ok (.isub, 1) := by decide +kernel
theorem dX4_trayBehind_7 : decode cX4_trayBehind 7 = .ok (.goto 9, 3) := by decide +kernel
theorem dX4_trayBehind_10 : decode cX4_trayBehind 10 = .ok (.aload_n 0, 1) := by decide +kernel
theorem dX4_trayBehind_11 : decode cX4_trayBehind 11 = .ok (.getfield 13, 3) := by decide +kernel
theorem dX4_trayBehind_14 : decode cX4_trayBehind 14 = .ok (.iconst 1, 1) := by decide +kernel
theorem dX4_trayBehind_15 : decode cX4_trayBehind 15 = .ok (.isub, 1) := by decide +kernel
theorem dX4_trayBehind_16 : decode cX4_trayBehind 16 = .ok (.ireturn, 1) := by decide +kernel
theorem dX5_init_0 : decode cX5_init 0 = .ok (.aload_n 0, 1) := by decide +kernel
theorem dX5_init_1 : decode cX5_init 1 = .ok (.invokespecial 1, 3) := by decide +kernel
theorem dX5_init_4 : decode cX5_init 4 = .ok (.aload_n 0, 1) := by decide +kernel
theorem dX5_init_5 : decode cX5_init 5 = .ok (.sipush 200, 3) := by decide +kernel
theorem dX5_init_8 : decode cX5_init 8 = .ok (.newarray .int, 2) := by decide +kernel
theorem dX5_init_10 : decode cX5_init 10 = .ok (.putfield 7, 3) := by decide +kernel
theorem dX5_init_13 : decode cX5_init 13 = .ok (.aload_n 0, 1) := by decide +kernel
theorem dX5_init_14 : decode cX5_init 14 = .ok (.sipush 200, 3) := by decide +kernel
theorem dX5_init_17 : decode cX5_init 17 = .ok (.newarray .int, 2) := by decide +kernel
theorem dX5_init_19 : decode cX5_init 19 = .ok (.putfield 13, 3) := by decide +kernel
theorem dX5_init_22 : decode cX5_init 22 = .ok (.aload_n 0, 1) := by decide +kernel
theorem dX5_init_23 : decode cX5_init 23 = .ok (.iconst 1, 1) := by decide +kernel
theorem dX5_init_24 : decode cX5_init 24 = .ok (.putfield 16, 3) := by decide +kernel
theorem dX5_init_27 : decode cX5_init 27 = .ok (.aload_n 0, 1) := by decide +kernel
theorem dX5_init_28 : decode cX5_init 28 = .ok (.sipush 401, 3) := by decide +kernel
theorem dX5_init_31 : decode cX5_init 31 = .ok (.newarray .int, 2) := by decide +kernel
theorem dX5_init_33 : decode cX5_init 33 = .ok (.putfield 20, 3) := by decide +kernel
theorem dX5_init_36 : decode cX5_init 36 = .ok (.aload_n 0, 1) := by decide +kernel
theorem dX5_init_37 : decode cX5_init 37 = .ok (.sipush 401, 3) := by decide +kernel
theorem dX5_init_40 : decode cX5_init 40 = .ok (.newarray .int, 2) := by decide +kernel
theorem dX5_init_42 : decode cX5_init 42 = .ok (.putfield 23, 3) := by decide +kernel
theorem dX5_init_45 : decode cX5_init 45 = .ok (.aload_n 0, 1) := by decide +kernel
theorem dX5_init_46 : decode cX5_init 46 = .ok (.sipush 401, 3) := by decide +kernel
theorem dX5_init_49 : decode cX5_init 49 = .ok (.newarray .int, 2) := by decide +kernel
theorem dX5_init_51 : decode cX5_init 51 = .ok (.putfield 26, 3) := by decide +kernel
theorem dX5_init_54 : decode cX5_init 54 = .ok (.aload_n 0, 1) := by decide +kernel
theorem dX5_init_55 : decode cX5_init 55 = .ok (.sipush 401, 3) := by decide +kernel
theorem dX5_init_58 : decode cX5_init 58 = .ok (.newarray .int, 2) := by decide +kernel
theorem dX5_init_60 : decode cX5_init 60 = .ok (.putfield 29, 3) := by decide +kernel
theorem dX5_init_63 : decode cX5_init 63 = .ok (.aload_n 0, 1) := by decide +kernel
theorem dX5_init_64 : decode cX5_init 64 = .ok (.sipush 401, 3) := by decide +kernel
theorem dX5_init_67 : decode cX5_init 67 = .ok (.newarray .int, 2) := by decide +kernel
theorem dX5_init_69 : decode cX5_init 69 = .ok (.putfield 32, 3) := by decide +kernel
theorem dX5_init_72 : decode cX5_init 72 = .ok (.aload_n 0, 1) := by decide +kernel
theorem dX5_init_73 : decode cX5_init 73 = .ok (.sipush 401, 3) := by decide +kernel
theorem dX5_init_76 : decode cX5_init 76 = .ok (.newarray .int, 2) := by decide +kernel
theorem dX5_init_78 : decode cX5_init 78 = .ok (.putfield 35, 3) := by decide +kernel
theorem dX5_init_81 : decode cX5_init 81 = .ok (.aload_n 0, 1) := by decide +kernel
theorem dX5_init_82 : decode cX5_init 82 = .ok (.iconst 4, 1) := by decide +kernel
theorem dX5_init_83 : decode cX5_init 83 = .ok (.newarray .long, 2) := by decide +kernel
theorem dX5_init_85 : decode cX5_init 85 = .ok (.putfield 38, 3) := by decide +kernel
theorem dX5_init_88 : decode cX5_init 88 = .ok (.aload_n 0, 1) := by decide +kernel
theorem dX5_init_89 : decode cX5_init 89 = .ok (.bipush 16, 2) := by decide +kernel
theorem dX5_init_91 : decode cX5_init 91 = .ok (.newarray .int, 2) := by decide +kernel
theorem dX5_init_93 : decode cX5_init 93 = .ok (.putfield 42, 3) := by decide +kernel
theorem dX5_init_96 : decode cX5_init 96 = .ok (.aload_n 0, 1) := by decide +kernel
theorem dX5_init_97 : decode cX5_init 97 = .ok (.bipush 16, 2) := by decide +kernel
theorem dX5_init_99 : decode cX5_init 99 = .ok (.newarray .boolean, 2) := by decide +kernel
theorem dX5_init_101 : decode cX5_init 101 = .ok (.putfield 45, 3) := by decide +kernel
theorem dX5_init_104 : decode cX5_init 104 = .ok (.aload_n 0, 1) := by decide +kernel
theorem dX5_init_105 : decode cX5_init 105 = .ok (.sipush 400, 3) := by decide +kernel
theorem dX5_init_108 : decode cX5_init 108 = .ok (.newarray .int, 2) := by decide +kernel
theorem dX5_init_110 : decode cX5_init 110 = .ok (.putfield 49, 3) := by decide +kernel
theorem dX5_init_113 : decode cX5_init 113 = .ok (.aload_n 0, 1) := by decide +kernel
theorem dX5_init_114 : decode cX5_init 114 = .ok (.sipush 400, 3) := by decide +kernel
theorem dX5_init_117 : decode cX5_init 117 = .ok (.newarray .int, 2) := by decide +kernel
theorem dX5_init_119 : decode cX5_init 119 = .ok (.putfield 52, 3) := by decide +kernel
theorem dX5_init_122 : decode cX5_init 122 = .ok (.aload_n 0, 1) := by decide +kernel
theorem dX5_init_123 : decode cX5_init 123 = .ok (.sipush 400, 3) := by decide +kernel
theorem dX5_init_126 : decode cX5_init 126 = .ok (.newarray .int, 2) := by decide +kernel
theorem dX5_init_128 : decode cX5_init 128 = .ok (.putfield 55, 3) := by decide +kernel
theorem dX5_init_131 : decode cX5_init 131 = .ok (.aload_n 0, 1) := by decide +kernel
theorem dX5_init_132 : decode cX5_init 132 = .ok (.iconst 4, 1) := by decide +kernel
theorem dX5_init_133 : decode cX5_init 133 = .ok (.newarray .boolean, 2) := by decide +kernel
theorem dX5_init_135 : decode cX5_init 135 = .ok (.putfield 58, 3) := by decide +kernel
theorem dX5_init_138 : decode cX5_init 138 = .ok (.aload_n 0, 1) := by decide +kernel
theorem dX5_init_139 : decode cX5_init 139 = .ok (.iload_n 1, 1) := by decide +kernel
theorem dX5_init_140 : decode cX5_init 140 = .ok (.iconst 1, 1) := by decide +kernel
theorem dX5_init_141 : decode cX5_init 141 = .ok (.if_icmp .ge 7, 3) := by decide +kernel
theorem dX5_init_144 : decode cX5_init 144 = .ok (.iconst 1, 1) := by decide +kernel
theorem dX5_init_145 : decode cX5_init 145 = .ok (.goto 17, 3) := by decide +kernel
theorem dX5_init_148 : decode cX5_init 148 = .ok (.iload_n 1, 1) := by decide +kernel
theorem dX5_init_149 : decode cX5_init 149 = .ok (.sipush 200, 3) := by decide +kernel
theorem dX5_init_152 : decode cX5_init 152 = .ok (.if_icmp .le 9, 3) := by decide +kernel
theorem dX5_init_155 : decode cX5_init 155 = .ok (.sipush 200, 3) := by decide +kernel
theorem dX5_init_158 : decode cX5_init 158 = .ok (.goto 4, 3) := by decide +kernel
theorem dX5_init_161 : decode cX5_init 161 = .ok (.iload_n 1, 1) := by decide +kernel
theorem dX5_init_162 : decode cX5_init 162 = .ok (.putfield 61, 3) := by decide +kernel
theorem dX5_init_165 : decode cX5_init 165 = .ok (.aload_n 0, 1) := by decide +kernel
theorem dX5_init_166 : decode cX5_init 166 = .ok (.iload_n 2, 1) := by decide +kernel
theorem dX5_init_167 : decode cX5_init 167 = .ok (.iconst 1, 1) := by decide +kernel
theorem dX5_init_168 : decode cX5_init 168 = .ok (.if_icmp .ge 7, 3) := by decide +kernel
theorem dX5_init_171 : decode cX5_init 171 = .ok (.iconst 1, 1) := by decide +kernel
theorem dX5_init_172 : decode cX5_init 172 = .ok (.goto 15, 3) := by decide +kernel
theorem dX5_init_175 : decode cX5_init 175 = .ok (.iload_n 2, 1) := by decide +kernel
theorem dX5_init_176 : decode cX5_init 176 = .ok (.bipush 20, 2) := by decide +kernel
theorem dX5_init_178 : decode cX5_init 178 = .ok (.if_icmp .le 8, 3) := by decide +kernel
theorem dX5_init_181 : decode cX5_init 181 = .ok (.bipush 20, 2) := by decide +kernel
theorem dX5_init_183 : decode cX5_init 183 = .ok (.goto 4, 3) := by decide +kernel
theorem dX5_init_186 : decode cX5_init 186 = .ok (.iload_n 2, 1) := by decide +kernel
theorem dX5_init_187 : decode cX5_init 187 = .ok (.putfield 64, 3) := by decide +kernel
theorem dX5_init_190 : decode cX5_init 190 = .ok (.iconst 0, 1) := by decide +kernel
theorem dX5_init_191 : decode cX5_init 191 = .ok (.istore_n 3, 1) := by decide +kernel
theorem dX5_init_192 : decode cX5_init 192 = .ok (.iload_n 3, 1) := by decide +kernel
theorem dX5_init_193 : decode cX5_init 193 = .ok (.sipush 200, 3) := by decide +kernel
theorem dX5_init_196 : decode cX5_init 196 = .ok (.if_icmp .ge 16, 3) := by decide +kernel
theorem dX5_init_199 : decode cX5_init 199 = .ok (.aload_n 0, 1) := by decide +kernel
theorem dX5_init_200 : decode cX5_init 200 = .ok (.getfield 7, 3) := by decide +kernel
theorem dX5_init_203 : decode cX5_init 203 = .ok (.iload_n 3, 1) := by decide +kernel
theorem dX5_init_204 : decode cX5_init 204 = .ok (.iload_n 3, 1) := by decide +kernel
theorem dX5_init_205 : decode cX5_init 205 = .ok (.iastore, 1) := by decide +kernel
theorem dX5_init_206 : decode cX5_init 206 = .ok (.iinc 3 1, 3) := by decide +kernel
theorem dX5_init_209 : decode cX5_init 209 = .ok (.goto (-17), 3) := by decide +kernel
theorem dX5_init_212 : decode cX5_init 212 = .ok (.return_, 1) := by decide +kernel
theorem dX5_thrown_0 : decode cX5_thrown 0 = .ok (.aload_n 0, 1) := by decide +kernel
theorem dX5_thrown_1 : decode cX5_thrown 1 = .ok (.getfield 67, 3) := by decide +kernel
theorem dX5_thrown_4 : decode cX5_thrown 4 = .ok (.ireturn, 1) := by decide +kernel
theorem dX5_in_0 : decode cX5_in 0 = .ok (.iload_n 0, 1) := by decide +kernel
theorem dX5_in_1 : decode cX5_in 1 = .ok (.iload_n 1, 1) := by decide +kernel
theorem dX5_in_2 : decode cX5_in 2 = .ok (.if_icmp .lt 12, 3) := by decide +kernel
theorem dX5_in_5 : decode cX5_in 5 = .ok (.iload_n 0, 1) := by decide +kernel
theorem dX5_in_6 : decode cX5_in 6 = .ok (.iload_n 2, 1) := by decide +kernel
theorem dX5_in_7 : decode cX5_in 7 = .ok (.if_icmp .gt 7, 3) := by decide +kernel
theorem dX5_in_10 : decode cX5_in 10 = .ok (.iconst 1, 1) := by decide +kernel
theorem dX5_in_11 : decode cX5_in 11 = .ok (.goto 4, 3) := by decide +kernel
theorem dX5_in_14 : decode cX5_in 14 = .ok (.iconst 0, 1) := by decide +kernel
theorem dX5_in_15 : decode cX5_in 15 = .ok (.ireturn, 1) := by decide +kernel
theorem dX5_waiting_0 : decode cX5_waiting 0 = .ok (.iconst 0, 1) := by decide +kernel
theorem dX5_waiting_1 : decode cX5_waiting 1 = .ok (.istore_n 2, 1) := by decide +kernel
theorem dX5_waiting_2 : decode cX5_waiting 2 = .ok (.iconst 1, 1) := by decide +kernel
theorem dX5_waiting_3 : decode cX5_waiting 3 = .ok (.istore_n 3, 1) := by decide +kernel
theorem dX5_waiting_4 : decode cX5_waiting 4 = .ok (.iload_n 3, 1) := by decide +kernel
theorem dX5_waiting_5 : decode cX5_waiting 5 = .ok (.aload_n 0, 1) := by decide +kernel
theorem dX5_waiting_6 : decode cX5_waiting 6 = .ok (.getfield 70, 3) := by decide +kernel
theorem dX5_waiting_9 : decode cX5_waiting 9 = .ok (.if_icmp .gt 36, 3) := by decide +kernel
theorem dX5_waiting_12 : decode cX5_waiting 12 = .ok (.aload_n 0, 1) := by decide +kernel
theorem dX5_waiting_13 : decode cX5_waiting 13 = .ok (.getfield 26, 3) := by decide +kernel
theorem dX5_waiting_16 : decode cX5_waiting 16 = .ok (.iload_n 3, 1) := by decide +kernel
theorem dX5_waiting_17 : decode cX5_waiting 17 = .ok (.iaload, 1) := by decide +kernel
theorem dX5_waiting_18 : decode cX5_waiting 18 = .ok (.ifCond .ne 19, 3) := by decide +kernel
theorem dX5_waiting_21 : decode cX5_waiting 21 = .ok (.aload_n 0, 1) := by decide +kernel
theorem dX5_waiting_22 : decode cX5_waiting 22 = .ok (.getfield 35, 3) := by decide +kernel
theorem dX5_waiting_25 : decode cX5_waiting 25 = .ok (.iload_n 3, 1) := by decide +kernel
theorem dX5_waiting_26 : decode cX5_waiting 26 = .ok (.iaload, 1) := by decide +kernel
theorem dX5_waiting_27 : decode cX5_waiting 27 = .ok (.iload_n 1, 1) := by decide +kernel
theorem dX5_waiting_28 : decode cX5_waiting 28 = .ok (.if_icmp .ne 9, 3) := by decide +kernel
theorem dX5_waiting_31 : decode cX5_waiting 31 = .ok (.iload_n 2, 1) := by decide +kernel
theorem dX5_waiting_32 : decode cX5_waiting 32 = .ok (.iconst 1, 1) := by decide +kernel
theorem dX5_waiting_33 : decode cX5_waiting 33 = .ok (.iadd, 1) := by decide +kernel
theorem dX5_waiting_34 : decode cX5_waiting 34 = .ok (.goto 4, 3) := by decide +kernel
theorem dX5_waiting_37 : decode cX5_waiting 37 = .ok (.iload_n 2, 1) := by decide +kernel
theorem dX5_waiting_38 : decode cX5_waiting 38 = .ok (.istore_n 2, 1) := by decide +kernel
theorem dX5_waiting_39 : decode cX5_waiting 39 = .ok (.iinc 3 1, 3) := by decide +kernel
theorem dX5_waiting_42 : decode cX5_waiting 42 = .ok (.goto (-38), 3) := by decide +kernel
theorem dX5_waiting_45 : decode cX5_waiting 45 = .ok (.iload_n 2, 1) := by decide +kernel
theorem dX5_waiting_46 : decode cX5_waiting 46 = .ok (.ireturn, 1) := by decide +kernel
set_option maxRecDepth 20000 in
theorem ggX5_induct_X5_in : GoodIn wsX5_induct wsX5_in := goodIn_r _ [9] (by decide +kernel) (by decide +kernel)
set_option maxRecDepth 20000 in
theorem gX5_induct_X5_in : GoodIn wsX5_induct (va_wsS RX5 73 yX5_in wsX5_in) := goodIn_app (goodIn_of _ (by decide +kernel)) ggX5_induct_X5_in
set_option maxRecDepth 20000 in
theorem ggX5_induct_X5_waiting : GoodIn wsX5_induct wsX5_waiting := goodIn_r _ [13, 2, 14, 3, 15, 16, 17, 18, 19, 20, 21, 22, 23, 24, 25, 26, 27, 28, 29, 30, 31, 32, 33, 34, 35, 36] (by decide +kernel) (by decide +kernel)
set_option maxRecDepth 20000 in
theorem gX5_induct_X5_waiting : GoodIn wsX5_induct (wsV RX5 77 RX5 yX5_waiting wsX5_waiting) := goodIn_app (goodIn_of _ (by decide +kernel)) ggX5_induct_X5_waiting
theorem dX5_induct_0 : decode cX5_induct 0 = .ok (.aload_n 0, 1) := by decide +kernel
theorem dX5_induct_1 : decode cX5_induct 1 = .ok (.iconst 0, 1) := by decide +kernel
theorem dX5_induct_2 : decode cX5_induct 2 = .ok (.putfield 67, 3) := by decide +kernel
theorem dX5_induct_5 : decode cX5_induct 5 = .ok (.iload_n 1, 1) := by decide +kernel
theorem dX5_induct_6 : decode cX5_induct 6 = .ok (.iconst 0, 1) := by decide +kernel
theorem dX5_induct_7 : decode cX5_induct 7 = .ok (.iconst 3, 1) := by decide +kernel
theorem dX5_induct_8 : decode cX5_induct 8 = .ok (.invokestatic 73, 3) := by decide +kernel
theorem dX5_induct_11 : decode cX5_induct 11 = .ok (.ifCond .eq 13, 3) := by decide +kernel
theorem dX5_induct_14 : decode cX5_induct 14 = .ok (.iload_n 3, 1) := by decide +kernel
theorem dX5_induct_15 : decode cX5_induct 15 = .ok (.iconst 0, 1) := by decide +kernel
theorem dX5_induct_16 : decode cX5_induct 16 = .ok (.bipush 15, 2) := by decide +kernel
theorem dX5_induct_18 : decode cX5_induct 18 = .ok (.invokestatic 73, 3) := by decide +kernel
theorem dX5_induct_21 : decode cX5_induct 21 = .ok (.ifCond .ne 6, 3) := by decide +kernel
theorem dX5_induct_24 : decode cX5_induct 24 = .ok (.bipush (-11), 2) := by decide +kernel
theorem dX5_induct_26 : decode cX5_induct 26 = .ok (.ireturn, 1) := by decide +kernel
theorem dX5_induct_27 : decode cX5_induct 27 = .ok (.iload_n 2, 1) := by decide +kernel
theorem dX5_induct_28 : decode cX5_induct 28 = .ok (.iconst 1, 1) := by decide +kernel
theorem dX5_induct_29 : decode cX5_induct 29 = .ok (.iconst 2, 1) := by decide +kernel
theorem dX5_induct_30 : decode cX5_induct 30 = .ok (.invokestatic 73, 3) := by decide +kernel
theorem dX5_induct_33 : decode cX5_induct 33 = .ok (.ifCond .ne 6, 3) := by decide +kernel
theorem dX5_induct_36 : decode cX5_induct 36 = .ok (.bipush (-12), 2) := by decide +kernel
theorem dX5_induct_38 : decode cX5_induct 38 = .ok (.ireturn, 1) := by decide +kernel
theorem dX5_induct_39 : decode cX5_induct 39 = .ok (.aload_n 0, 1) := by decide +kernel
theorem dX5_induct_40 : decode cX5_induct 40 = .ok (.getfield 70, 3) := by decide +kernel
theorem dX5_induct_43 : decode cX5_induct 43 = .ok (.sipush 400, 3) := by decide +kernel
theorem dX5_induct_46 : decode cX5_induct 46 = .ok (.if_icmp .ne 6, 3) := by decide +kernel
theorem dX5_induct_49 : decode cX5_induct 49 = .ok (.bipush (-14), 2) := by decide +kernel
theorem dX5_induct_51 : decode cX5_induct 51 = .ok (.ireturn, 1) := by decide +kernel
theorem dX5_induct_52 : decode cX5_induct 52 = .ok (.aload_n 0, 1) := by decide +kernel
theorem dX5_induct_53 : decode cX5_induct 53 = .ok (.iload_n 1, 1) := by decide +kernel
theorem dX5_induct_54 : decode cX5_induct 54 = .ok (.invokevirtual 77, 3) := by decide +kernel
theorem dX5_induct_57 : decode cX5_induct 57 = .ok (.bipush 8, 2) := by decide +kernel
theorem dX5_induct_59 : decode cX5_induct 59 = .ok (.if_icmp .ne 5, 3) := by decide +kernel
theorem dX5_induct_62 : decode cX5_induct 62 = .ok (.iconst 0, 1) := by decide +kernel
theorem dX5_induct_63 : decode cX5_induct 63 = .ok (.ireturn, 1) := by decide +kernel
theorem dX5_induct_64 : decode cX5_induct 64 = .ok (.aload_n 0, 1) := by decide +kernel
theorem dX5_induct_65 : decode cX5_induct 65 = .ok (.dup, 1) := by decide +kernel
theorem dX5_induct_66 : decode cX5_induct 66 = .ok (.getfield 70, 3) := by decide +kernel
theorem dX5_induct_69 : decode cX5_induct 69 = .ok (.iconst 1, 1) := by decide +kernel
theorem dX5_induct_70 : decode cX5_induct 70 = .ok (.iadd, 1) := by decide +kernel
theorem dX5_induct_71 : decode cX5_induct 71 = .ok (.putfield 70, 3) := by decide +kernel
theorem dX5_induct_74 : decode cX5_induct 74 = .ok (.aload_n 0, 1) := by decide +kernel
theorem dX5_induct_75 : decode cX5_induct 75 = .ok (.getfield 35, 3) := by decide +kernel
theorem dX5_induct_78 : decode cX5_induct 78 = .ok (.aload_n 0, 1) := by decide +kernel
theorem dX5_induct_79 : decode cX5_induct 79 = .ok (.getfield 70, 3) := by decide +kernel
theorem dX5_induct_82 : decode cX5_induct 82 = .ok (.iload_n 1, 1) := by decide +kernel
theorem dX5_induct_83 : decode cX5_induct 83 = .ok (.iastore, 1) := by decide +kernel
theorem dX5_induct_84 : decode cX5_induct 84 = .ok (.aload_n 0, 1) := by decide +kernel
theorem dX5_induct_85 : decode cX5_induct 85 = .ok (.getfield 20, 3) := by decide +kernel
theorem dX5_induct_88 : decode cX5_induct 88 = .ok (.aload_n 0, 1) := by decide +kernel
theorem dX5_induct_89 : decode cX5_induct 89 = .ok (.getfield 70, 3) := by decide +kernel
theorem dX5_induct_92 : decode cX5_induct 92 = .ok (.iload_n 2, 1) := by decide +kernel
theorem dX5_induct_93 : decode cX5_induct 93 = .ok (.iastore, 1) := by decide +kernel
theorem dX5_induct_94 : decode cX5_induct 94 = .ok (.aload_n 0, 1) := by decide +kernel
theorem dX5_induct_95 : decode cX5_induct 95 = .ok (.getfield 23, 3) := by decide +kernel
theorem dX5_induct_98 : decode cX5_induct 98 = .ok (.aload_n 0, 1) := by decide +kernel
theorem dX5_induct_99 : decode cX5_induct 99 = .ok (.getfield 70, 3) := by decide +kernel
theorem dX5_induct_102 : decode cX5_induct 102 = .ok (.iload_n 3, 1) := by decide +kernel
theorem dX5_induct_103 : decode cX5_induct 103 = .ok (.iastore, 1) := by decide +kernel
theorem dX5_induct_104 : decode cX5_induct 104 = .ok (.aload_n 0, 1) := by decide +kernel
theorem dX5_induct_105 : decode cX5_induct 105 = .ok (.getfield 70, 3) := by decide +kernel
theorem dX5_induct_108 : decode cX5_induct 108 = .ok (.ireturn, 1) := by decide +kernel
theorem dX5_move_0 : decode cX5_move 0 = .ok (.aload_n 0, 1) := by decide +kernel
theorem dX5_move_1 : decode cX5_move 1 = .ok (.getfield 7, 3) := by decide +kernel
theorem dX5_move_4 : decode cX5_move 4 = .ok (.aload_n 0, 1) := by decide +kernel
theorem dX5_move_5 : decode cX5_move 5 = .ok (.getfield 61, 3) := by decide +kernel
theorem dX5_move_8 : decode cX5_move 8 = .ok (.iconst 1, 1) := by decide +kernel
theorem dX5_move_9 : decode cX5_move 9 = .ok (.isub, 1) := by decide +kernel
theorem dX5_move_10 : decode cX5_move 10 = .ok (.iaload, 1) := by decide +kernel
theorem dX5_move_11 : decode cX5_move 11 = .ok (.istore_n 1, 1) := by decide +kernel
theorem dX5_move_12 : decode cX5_move 12 = .ok (.aload_n 0, 1) := by decide +kernel
theorem dX5_move_13 : decode cX5_move 13 = .ok (.getfield 13, 3) := by decide +kernel
theorem dX5_move_16 : decode cX5_move 16 = .ok (.aload_n 0, 1) := by decide +kernel
theorem dX5_move_17 : decode cX5_move 17 = .ok (.getfield 61, 3) := by decide +kernel
theorem dX5_move_20 : decode cX5_move 20 = .ok (.iconst 1, 1) := by decide +kernel
theorem dX5_move_21 : decode cX5_move 21 = .ok (.isub, 1) := by decide +kernel
theorem dX5_move_22 : decode cX5_move 22 = .ok (.iaload, 1) := by decide +kernel
theorem dX5_move_23 : decode cX5_move 23 = .ok (.istore_n 2, 1) := by decide +kernel
theorem dX5_move_24 : decode cX5_move 24 = .ok (.aload_n 0, 1) := by decide +kernel
theorem dX5_move_25 : decode cX5_move 25 = .ok (.getfield 61, 3) := by decide +kernel
theorem dX5_move_28 : decode cX5_move 28 = .ok (.iconst 1, 1) := by decide +kernel
theorem dX5_move_29 : decode cX5_move 29 = .ok (.isub, 1) := by decide +kernel
theorem dX5_move_30 : decode cX5_move 30 = .ok (.istore_n 3, 1) := by decide +kernel
theorem dX5_move_31 : decode cX5_move 31 = .ok (.iload_n 3, 1) := by decide +kernel
theorem dX5_move_32 : decode cX5_move 32 = .ok (.ifCond .le 37, 3) := by decide +kernel
theorem dX5_move_35 : decode cX5_move 35 = .ok (.aload_n 0, 1) := by decide +kernel
theorem dX5_move_36 : decode cX5_move 36 = .ok (.getfield 7, 3) := by decide +kernel
theorem dX5_move_39 : decode cX5_move 39 = .ok (.iload_n 3, 1) := by decide +kernel
end
section
theorem dX5_move_40 : decode cX5_move 40 = .ok (.aload_n 0, 1) := by decide +kernel
theorem dX5_move_41 : decode cX5_move 41 = .ok (.getfield 7, 3) := by decide +kernel
theorem dX5_move_44 : decode cX5_move 44 = .ok (.iload_n 3, 1) := by decide +kernel
theorem dX5_move_45 : decode cX5_move 45 = .ok (.iconst 1, 1) := by decide +kernel
theorem dX5_move_46 : decode cX5_move 46 = .ok (.isub, 1) := by decide +kernel
theorem dX5_move_47 : decode cX5_move 47 = .ok (.iaload, 1) := by decide +kernel
theorem dX5_move_48 : decode cX5_move 48 = .ok (.iastore, 1) := by decide +kernel
theorem dX5_move_49 : decode cX5_move 49 = .ok (.aload_n 0, 1) := by decide +kernel
theorem dX5_move_50 : decode cX5_move 50 = .ok (.getfield 13, 3) := by decide +kernel
theorem dX5_move_53 : decode cX5_move 53 = .ok (.iload_n 3, 1) := by decide +kernel
theorem dX5_move_54 : decode cX5_move 54 = .ok (.aload_n 0, 1) := by decide +kernel
theorem dX5_move_55 : decode cX5_move 55 = .ok (.getfield 13, 3) := by decide +kernel
theorem dX5_move_58 : decode cX5_move 58 = .ok (.iload_n 3, 1) := by decide +kernel
theorem dX5_move_59 : decode cX5_move 59 = .ok (.iconst 1, 1) := by decide +kernel
theorem dX5_move_60 : decode cX5_move 60 = .ok (.isub, 1) := by decide +kernel
theorem dX5_move_61 : decode cX5_move 61 = .ok (.iaload, 1) := by decide +kernel
theorem dX5_move_62 : decode cX5_move 62 = .ok (.iastore, 1) := by decide +kernel
theorem dX5_move_63 : decode cX5_move 63 = .ok (.iinc 3 (-1), 3) := by decide +kernel
theorem dX5_move_66 : decode cX5_move 66 = .ok (.goto (-35), 3) := by decide +kernel
theorem dX5_move_69 : decode cX5_move 69 = .ok (.aload_n 0, 1) := by decide +kernel
theorem dX5_move_70 : decode cX5_move 70 = .ok (.getfield 7, 3) := by decide +kernel
theorem dX5_move_73 : decode cX5_move 73 = .ok (.iconst 0, 1) := by decide +kernel
theorem dX5_move_74 : decode cX5_move 74 = .ok (.iload_n 1, 1) := by decide +kernel
theorem dX5_move_75 : decode cX5_move 75 = .ok (.iastore, 1) := by decide +kernel
theorem dX5_move_76 : decode cX5_move 76 = .ok (.aload_n 0, 1) := by decide +kernel
theorem dX5_move_77 : decode cX5_move 77 = .ok (.getfield 13, 3) := by decide +kernel
theorem dX5_move_80 : decode cX5_move 80 = .ok (.iconst 0, 1) := by decide +kernel
theorem dX5_move_81 : decode cX5_move 81 = .ok (.iload_n 2, 1) := by decide +kernel
theorem dX5_move_82 : decode cX5_move 82 = .ok (.iastore, 1) := by decide +kernel
theorem dX5_move_83 : decode cX5_move 83 = .ok (.return_, 1) := by decide +kernel
theorem dX5_before_0 : decode cX5_before 0 = .ok (.iload_n 1, 1) := by decide +kernel
theorem dX5_before_1 : decode cX5_before 1 = .ok (.ifCond .ne 12, 3) := by decide +kernel
theorem dX5_before_4 : decode cX5_before 4 = .ok (.aload_n 0, 1) := by decide +kernel
theorem dX5_before_5 : decode cX5_before 5 = .ok (.getfield 61, 3) := by decide +kernel
theorem dX5_before_8 : decode cX5_before 8 = .ok (.iconst 1, 1) := by decide +kernel
theorem dX5_before_9 : decode cX5_before 9 = .ok (.isub, 1) := by decide +kernel
theorem dX5_before_10 : decode cX5_before 10 = .ok (.goto 6, 3) := by decide +kernel
theorem dX5_before_13 : decode cX5_before 13 = .ok (.iload_n 1, 1) := by decide +kernel
theorem dX5_before_14 : decode cX5_before 14 = .ok (.iconst 1, 1) := by decide +kernel
theorem dX5_before_15 : decode cX5_before 15 = .ok (.isub, 1) := by decide +kernel
theorem dX5_before_16 : decode cX5_before 16 = .ok (.ireturn, 1) := by decide +kernel
theorem dX5_hasRoom_0 : decode cX5_hasRoom 0 = .ok (.iload_n 1, 1) := by decide +kernel
theorem dX5_hasRoom_1 : decode cX5_hasRoom 1 = .ok (.bipush 15, 2) := by decide +kernel
theorem dX5_hasRoom_3 : decode cX5_hasRoom 3 = .ok (.if_icmp .eq 23, 3) := by decide +kernel
theorem dX5_hasRoom_6 : decode cX5_hasRoom 6 = .ok (.aload_n 0, 1) := by decide +kernel
theorem dX5_hasRoom_7 : decode cX5_hasRoom 7 = .ok (.getfield 45, 3) := by decide +kernel
theorem dX5_hasRoom_10 : decode cX5_hasRoom 10 = .ok (.iload_n 1, 1) := by decide +kernel
theorem dX5_hasRoom_11 : decode cX5_hasRoom 11 = .ok (.baload, 1) := by decide +kernel
theorem dX5_hasRoom_12 : decode cX5_hasRoom 12 = .ok (.ifCond .ne 18, 3) := by decide +kernel
theorem dX5_hasRoom_15 : decode cX5_hasRoom 15 = .ok (.aload_n 0, 1) := by decide +kernel
theorem dX5_hasRoom_16 : decode cX5_hasRoom 16 = .ok (.getfield 42, 3) := by decide +kernel
theorem dX5_hasRoom_19 : decode cX5_hasRoom 19 = .ok (.iload_n 1, 1) := by decide +kernel
theorem dX5_hasRoom_20 : decode cX5_hasRoom 20 = .ok (.iaload, 1) := by decide +kernel
theorem dX5_hasRoom_21 : decode cX5_hasRoom 21 = .ok (.bipush 10, 2) := by decide +kernel
theorem dX5_hasRoom_23 : decode cX5_hasRoom 23 = .ok (.if_icmp .ge 7, 3) := by decide +kernel
theorem dX5_hasRoom_26 : decode cX5_hasRoom 26 = .ok (.iconst 1, 1) := by decide +kernel
theorem dX5_hasRoom_27 : decode cX5_hasRoom 27 = .ok (.goto 4, 3) := by decide +kernel
theorem dX5_hasRoom_30 : decode cX5_hasRoom 30 = .ok (.iconst 0, 1) := by decide +kernel
theorem dX5_hasRoom_31 : decode cX5_hasRoom 31 = .ok (.ireturn, 1) := by decide +kernel
set_option maxRecDepth 20000 in
theorem ggX5_goOut_X5_before : GoodIn wsX5_goOut wsX5_before := goodIn_r _ [14, 15, 16, 17, 18, 19, 20, 21, 22, 23, 24, 25, 26, 27, 28, 29, 30, 31, 32, 33, 34, 35, 36, 37] (by decide +kernel) (by decide +kernel)
set_option maxRecDepth 20000 in
theorem gX5_goOut_X5_before : GoodIn wsX5_goOut (wsV RX5 81 RX5 yX5_before wsX5_before) := goodIn_app (goodIn_of _ (by decide +kernel)) ggX5_goOut_X5_before
theorem dX5_goOut_0 : decode cX5_goOut 0 = .ok (.aload_n 0, 1) := by decide +kernel
theorem dX5_goOut_1 : decode cX5_goOut 1 = .ok (.getfield 13, 3) := by decide +kernel
theorem dX5_goOut_4 : decode cX5_goOut 4 = .ok (.iload_n 2, 1) := by decide +kernel
theorem dX5_goOut_5 : decode cX5_goOut 5 = .ok (.iconst 0, 1) := by decide +kernel
theorem dX5_goOut_6 : decode cX5_goOut 6 = .ok (.iastore, 1) := by decide +kernel
theorem dX5_goOut_7 : decode cX5_goOut 7 = .ok (.aload_n 0, 1) := by decide +kernel
theorem dX5_goOut_8 : decode cX5_goOut 8 = .ok (.getfield 20, 3) := by decide +kernel
theorem dX5_goOut_11 : decode cX5_goOut 11 = .ok (.iload_n 1, 1) := by decide +kernel
theorem dX5_goOut_12 : decode cX5_goOut 12 = .ok (.iaload, 1) := by decide +kernel
theorem dX5_goOut_13 : decode cX5_goOut 13 = .ok (.iconst 2, 1) := by decide +kernel
theorem dX5_goOut_14 : decode cX5_goOut 14 = .ok (.if_icmp .ne 14, 3) := by decide +kernel
theorem dX5_goOut_17 : decode cX5_goOut 17 = .ok (.aload_n 0, 1) := by decide +kernel
theorem dX5_goOut_18 : decode cX5_goOut 18 = .ok (.getfield 13, 3) := by decide +kernel
theorem dX5_goOut_21 : decode cX5_goOut 21 = .ok (.aload_n 0, 1) := by decide +kernel
theorem dX5_goOut_22 : decode cX5_goOut 22 = .ok (.iload_n 2, 1) := by decide +kernel
theorem dX5_goOut_23 : decode cX5_goOut 23 = .ok (.invokevirtual 81, 3) := by decide +kernel
theorem dX5_goOut_26 : decode cX5_goOut 26 = .ok (.iconst 0, 1) := by decide +kernel
theorem dX5_goOut_27 : decode cX5_goOut 27 = .ok (.iastore, 1) := by decide +kernel
theorem dX5_goOut_28 : decode cX5_goOut 28 = .ok (.aload_n 0, 1) := by decide +kernel
theorem dX5_goOut_29 : decode cX5_goOut 29 = .ok (.getfield 26, 3) := by decide +kernel
theorem dX5_goOut_32 : decode cX5_goOut 32 = .ok (.iload_n 1, 1) := by decide +kernel
theorem dX5_goOut_33 : decode cX5_goOut 33 = .ok (.iconst 3, 1) := by decide +kernel
theorem dX5_goOut_34 : decode cX5_goOut 34 = .ok (.iastore, 1) := by decide +kernel
theorem dX5_goOut_35 : decode cX5_goOut 35 = .ok (.aload_n 0, 1) := by decide +kernel
theorem dX5_goOut_36 : decode cX5_goOut 36 = .ok (.getfield 42, 3) := by decide +kernel
theorem dX5_goOut_39 : decode cX5_goOut 39 = .ok (.iload_n 3, 1) := by decide +kernel
theorem dX5_goOut_40 : decode cX5_goOut 40 = .ok (.dup2, 1) := by decide +kernel
theorem dX5_goOut_41 : decode cX5_goOut 41 = .ok (.iaload, 1) := by decide +kernel
theorem dX5_goOut_42 : decode cX5_goOut 42 = .ok (.iconst 1, 1) := by decide +kernel
theorem dX5_goOut_43 : decode cX5_goOut 43 = .ok (.iadd, 1) := by decide +kernel
theorem dX5_goOut_44 : decode cX5_goOut 44 = .ok (.iastore, 1) := by decide +kernel
theorem dX5_goOut_45 : decode cX5_goOut 45 = .ok (.aload_n 0, 1) := by decide +kernel
theorem dX5_goOut_46 : decode cX5_goOut 46 = .ok (.getfield 49, 3) := by decide +kernel
theorem dX5_goOut_49 : decode cX5_goOut 49 = .ok (.aload_n 0, 1) := by decide +kernel
theorem dX5_goOut_50 : decode cX5_goOut 50 = .ok (.getfield 84, 3) := by decide +kernel
theorem dX5_goOut_53 : decode cX5_goOut 53 = .ok (.iload_n 1, 1) := by decide +kernel
theorem dX5_goOut_54 : decode cX5_goOut 54 = .ok (.iastore, 1) := by decide +kernel
theorem dX5_goOut_55 : decode cX5_goOut 55 = .ok (.aload_n 0, 1) := by decide +kernel
theorem dX5_goOut_56 : decode cX5_goOut 56 = .ok (.getfield 52, 3) := by decide +kernel
theorem dX5_goOut_59 : decode cX5_goOut 59 = .ok (.aload_n 0, 1) := by decide +kernel
theorem dX5_goOut_60 : decode cX5_goOut 60 = .ok (.getfield 84, 3) := by decide +kernel
theorem dX5_goOut_63 : decode cX5_goOut 63 = .ok (.iload_n 3, 1) := by decide +kernel
theorem dX5_goOut_64 : decode cX5_goOut 64 = .ok (.iastore, 1) := by decide +kernel
theorem dX5_goOut_65 : decode cX5_goOut 65 = .ok (.aload_n 0, 1) := by decide +kernel
theorem dX5_goOut_66 : decode cX5_goOut 66 = .ok (.getfield 55, 3) := by decide +kernel
theorem dX5_goOut_69 : decode cX5_goOut 69 = .ok (.aload_n 0, 1) := by decide +kernel
theorem dX5_goOut_70 : decode cX5_goOut 70 = .ok (.getfield 84, 3) := by decide +kernel
theorem dX5_goOut_73 : decode cX5_goOut 73 = .ok (.aload_n 0, 1) := by decide +kernel
theorem dX5_goOut_74 : decode cX5_goOut 74 = .ok (.getfield 87, 3) := by decide +kernel
theorem dX5_goOut_77 : decode cX5_goOut 77 = .ok (.iastore, 1) := by decide +kernel
theorem dX5_goOut_78 : decode cX5_goOut 78 = .ok (.aload_n 0, 1) := by decide +kernel
theorem dX5_goOut_79 : decode cX5_goOut 79 = .ok (.dup, 1) := by decide +kernel
theorem dX5_goOut_80 : decode cX5_goOut 80 = .ok (.getfield 84, 3) := by decide +kernel
theorem dX5_goOut_83 : decode cX5_goOut 83 = .ok (.iconst 1, 1) := by decide +kernel
theorem dX5_goOut_84 : decode cX5_goOut 84 = .ok (.iadd, 1) := by decide +kernel
theorem dX5_goOut_85 : decode cX5_goOut 85 = .ok (.putfield 84, 3) := by decide +kernel
theorem dX5_goOut_88 : decode cX5_goOut 88 = .ok (.return_, 1) := by decide +kernel
set_option maxRecDepth 20000 in
theorem ggX5_passChute_X5_hasRoom : GoodIn wsX5_passChute wsX5_hasRoom := goodIn_r _ [13, 14, 15, 30, 31, 32, 33, 34, 35, 36, 37, 38, 39, 40, 41, 42, 43, 44, 45, 46, 47, 48, 49, 50, 51] (by decide +kernel) (by decide +kernel)
set_option maxRecDepth 20000 in
theorem gX5_passChute_X5_hasRoom : GoodIn wsX5_passChute (wsV RX5 90 RX5 yX5_hasRoom wsX5_hasRoom) := goodIn_app (goodIn_of _ (by decide +kernel)) ggX5_passChute_X5_hasRoom
set_option maxRecDepth 20000 in
theorem ggX5_passChute_X5_goOut : GoodIn wsX5_passChute wsX5_goOut := goodIn_r _ [19, 2, 20, 5, 15, 21, 22, 23, 24, 25, 26, 27, 28, 12, 29, 1, 30, 31, 32, 33, 34, 35, 36, 37, 38, 39, 40, 41, 42, 43, 44, 45, 46, 47, 48, 49, 50, 51] (by decide +kernel) (by decide +kernel)
set_option maxRecDepth 20000 in
theorem gX5_passChute_X5_goOut : GoodIn wsX5_passChute (wsV RX5 94 RX5 yX5_goOut wsX5_goOut) := goodIn_app (goodIn_of _ (by decide +kernel)) ggX5_passChute_X5_goOut
theorem dX5_passChute_0 : decode cX5_passChute 0 = .ok (.iload_n 1, 1) := by decide +kernel
theorem dX5_passChute_1 : decode cX5_passChute 1 = .ok (.aload_n 0, 1) := by decide +kernel
theorem dX5_passChute_2 : decode cX5_passChute 2 = .ok (.getfield 61, 3) := by decide +kernel
theorem dX5_passChute_5 : decode cX5_passChute 5 = .ok (.imul, 1) := by decide +kernel
theorem dX5_passChute_6 : decode cX5_passChute 6 = .ok (.aload_n 0, 1) := by decide +kernel
theorem dX5_passChute_7 : decode cX5_passChute 7 = .ok (.getfield 61, 3) := by decide +kernel
theorem dX5_passChute_10 : decode cX5_passChute 10 = .ok (.iconst 2, 1) := by decide +kernel
theorem dX5_passChute_11 : decode cX5_passChute 11 = .ok (.idiv, 1) := by decide +kernel
theorem dX5_passChute_12 : decode cX5_passChute 12 = .ok (.iadd, 1) := by decide +kernel
theorem dX5_passChute_13 : decode cX5_passChute 13 = .ok (.bipush 16, 2) := by decide +kernel
theorem dX5_passChute_15 : decode cX5_passChute 15 = .ok (.idiv, 1) := by decide +kernel
theorem dX5_passChute_16 : decode cX5_passChute 16 = .ok (.istore_n 2, 1) := by decide +kernel
theorem dX5_passChute_17 : decode cX5_passChute 17 = .ok (.aload_n 0, 1) := by decide +kernel
theorem dX5_passChute_18 : decode cX5_passChute 18 = .ok (.getfield 13, 3) := by decide +kernel
theorem dX5_passChute_21 : decode cX5_passChute 21 = .ok (.iload_n 2, 1) := by decide +kernel
theorem dX5_passChute_22 : decode cX5_passChute 22 = .ok (.iaload, 1) := by decide +kernel
theorem dX5_passChute_23 : decode cX5_passChute 23 = .ok (.istore_n 3, 1) := by decide +kernel
theorem dX5_passChute_24 : decode cX5_passChute 24 = .ok (.iload_n 3, 1) := by decide +kernel
theorem dX5_passChute_25 : decode cX5_passChute 25 = .ok (.ifCond .eq 28, 3) := by decide +kernel
theorem dX5_passChute_28 : decode cX5_passChute 28 = .ok (.aload_n 0, 1) := by decide +kernel
theorem dX5_passChute_29 : decode cX5_passChute 29 = .ok (.getfield 29, 3) := by decide +kernel
theorem dX5_passChute_32 : decode cX5_passChute 32 = .ok (.iload_n 3, 1) := by decide +kernel
theorem dX5_passChute_33 : decode cX5_passChute 33 = .ok (.iaload, 1) := by decide +kernel
theorem dX5_passChute_34 : decode cX5_passChute 34 = .ok (.aload_n 0, 1) := by decide +kernel
theorem dX5_passChute_35 : decode cX5_passChute 35 = .ok (.getfield 7, 3) := by decide +kernel
theorem dX5_passChute_38 : decode cX5_passChute 38 = .ok (.iload_n 2, 1) := by decide +kernel
theorem dX5_passChute_39 : decode cX5_passChute 39 = .ok (.iaload, 1) := by decide +kernel
theorem dX5_passChute_40 : decode cX5_passChute 40 = .ok (.if_icmp .ne 13, 3) := by decide +kernel
theorem dX5_passChute_43 : decode cX5_passChute 43 = .ok (.aload_n 0, 1) := by decide +kernel
theorem dX5_passChute_44 : decode cX5_passChute 44 = .ok (.getfield 26, 3) := by decide +kernel
theorem dX5_passChute_47 : decode cX5_passChute 47 = .ok (.iload_n 3, 1) := by decide +kernel
theorem dX5_passChute_48 : decode cX5_passChute 48 = .ok (.iaload, 1) := by decide +kernel
theorem dX5_passChute_49 : decode cX5_passChute 49 = .ok (.iconst 1, 1) := by decide +kernel
theorem dX5_passChute_50 : decode cX5_passChute 50 = .ok (.if_icmp .eq 4, 3) := by decide +kernel
theorem dX5_passChute_53 : decode cX5_passChute 53 = .ok (.return_, 1) := by decide +kernel
theorem dX5_passChute_54 : decode cX5_passChute 54 = .ok (.aload_n 0, 1) := by decide +kernel
theorem dX5_passChute_55 : decode cX5_passChute 55 = .ok (.getfield 23, 3) := by decide +kernel
theorem dX5_passChute_58 : decode cX5_passChute 58 = .ok (.iload_n 3, 1) := by decide +kernel
theorem dX5_passChute_59 : decode cX5_passChute 59 = .ok (.iaload, 1) := by decide +kernel
theorem dX5_passChute_60 : decode cX5_passChute 60 = .ok (.iload_n 1, 1) := by decide +kernel
theorem dX5_passChute_61 : decode cX5_passChute 61 = .ok (.if_icmp .eq 22, 3) := by decide +kernel
theorem dX5_passChute_64 : decode cX5_passChute 64 = .ok (.iload_n 1, 1) := by decide +kernel
theorem dX5_passChute_65 : decode cX5_passChute 65 = .ok (.bipush 15, 2) := by decide +kernel
theorem dX5_passChute_67 : decode cX5_passChute 67 = .ok (.if_icmp .ne 20, 3) := by decide +kernel
theorem dX5_passChute_70 : decode cX5_passChute 70 = .ok (.aload_n 0, 1) := by decide +kernel
theorem dX5_passChute_71 : decode cX5_passChute 71 = .ok (.getfield 32, 3) := by decide +kernel
theorem dX5_passChute_74 : decode cX5_passChute 74 = .ok (.iload_n 3, 1) := by decide +kernel
theorem dX5_passChute_75 : decode cX5_passChute 75 = .ok (.iaload, 1) := by decide +kernel
theorem dX5_passChute_76 : decode cX5_passChute 76 = .ok (.aload_n 0, 1) := by decide +kernel
theorem dX5_passChute_77 : decode cX5_passChute 77 = .ok (.getfield 64, 3) := by decide +kernel
theorem dX5_passChute_80 : decode cX5_passChute 80 = .ok (.if_icmp .lt 7, 3) := by decide +kernel
theorem dX5_passChute_83 : decode cX5_passChute 83 = .ok (.iconst 1, 1) := by decide +kernel
theorem dX5_passChute_84 : decode cX5_passChute 84 = .ok (.goto 4, 3) := by decide +kernel
theorem dX5_passChute_87 : decode cX5_passChute 87 = .ok (.iconst 0, 1) := by decide +kernel
theorem dX5_passChute_88 : decode cX5_passChute 88 = .ok (.istore 4, 2) := by decide +kernel
theorem dX5_passChute_90 : decode cX5_passChute 90 = .ok (.iload 4, 2) := by decide +kernel
theorem dX5_passChute_92 : decode cX5_passChute 92 = .ok (.ifCond .eq 21, 3) := by decide +kernel
theorem dX5_passChute_95 : decode cX5_passChute 95 = .ok (.aload_n 0, 1) := by decide +kernel
theorem dX5_passChute_96 : decode cX5_passChute 96 = .ok (.iload_n 1, 1) := by decide +kernel
theorem dX5_passChute_97 : decode cX5_passChute 97 = .ok (.invokevirtual 90, 3) := by decide +kernel
theorem dX5_passChute_100 : decode cX5_passChute 100 = .ok (.ifCond .eq 13, 3) := by decide +kernel
theorem dX5_passChute_103 : decode cX5_passChute 103 = .ok (.aload_n 0, 1) := by decide +kernel
theorem dX5_passChute_104 : decode cX5_passChute 104 = .ok (.iload_n 3, 1) := by decide +kernel
theorem dX5_passChute_105 : decode cX5_passChute 105 = .ok (.iload_n 2, 1) := by decide +kernel
theorem dX5_passChute_106 : decode cX5_passChute 106 = .ok (.iload_n 1, 1) := by decide +kernel
theorem dX5_passChute_107 : decode cX5_passChute 107 = .ok (.invokevirtual 94, 3) := by decide +kernel
theorem dX5_passChute_110 : decode cX5_passChute 110 = .ok (.goto 23, 3) := by decide +kernel
theorem dX5_passChute_113 : decode cX5_passChute 113 = .ok (.aload_n 0, 1) := by decide +kernel
theorem dX5_passChute_114 : decode cX5_passChute 114 = .ok (.getfield 23, 3) := by decide +kernel
theorem dX5_passChute_117 : decode cX5_passChute 117 = .ok (.iload_n 3, 1) := by decide +kernel
theorem dX5_passChute_118 : decode cX5_passChute 118 = .ok (.iaload, 1) := by decide +kernel
theorem dX5_passChute_119 : decode cX5_passChute 119 = .ok (.iload_n 1, 1) := by decide +kernel
theorem dX5_passChute_120 : decode cX5_passChute 120 = .ok (.if_icmp .ne 13, 3) := by decide +kernel
theorem dX5_passChute_123 : decode cX5_passChute 123 = .ok (.aload_n 0, 1) := by decide +kernel
theorem dX5_passChute_124 : decode cX5_passChute 124 = .ok (.getfield 32, 3) := by decide +kernel
theorem dX5_passChute_127 : decode cX5_passChute 127 = .ok (.iload_n 3, 1) := by decide +kernel
theorem dX5_passChute_128 : decode cX5_passChute 128 = .ok (.dup2, 1) := by decide +kernel
theorem dX5_passChute_129 : decode cX5_passChute 129 = .ok (.iaload, 1) := by decide +kernel
theorem dX5_passChute_130 : decode cX5_passChute 130 = .ok (.iconst 1, 1) := by decide +kernel
theorem dX5_passChute_131 : decode cX5_passChute 131 = .ok (.iadd, 1) := by decide +kernel
theorem dX5_passChute_132 : decode cX5_passChute 132 = .ok (.iastore, 1) := by decide +kernel
theorem dX5_passChute_133 : decode cX5_passChute 133 = .ok (.return_, 1) := by decide +kernel
theorem dX5_firstWaiting_0 : decode cX5_firstWaiting 0 = .ok (.iconst 0, 1) := by decide +kernel
theorem dX5_firstWaiting_1 : decode cX5_firstWaiting 1 = .ok (.istore_n 2, 1) := by decide +kernel
theorem dX5_firstWaiting_2 : decode cX5_firstWaiting 2 = .ok (.aload_n 0, 1) := by decide +kernel
theorem dX5_firstWaiting_3 : decode cX5_firstWaiting 3 = .ok (.getfield 70, 3) := by decide +kernel
theorem dX5_firstWaiting_6 : decode cX5_firstWaiting 6 = .ok (.istore_n 3, 1) := by decide +kernel
theorem dX5_firstWaiting_7 : decode cX5_firstWaiting 7 = .ok (.iload_n 3, 1) := by decide +kernel
theorem dX5_firstWaiting_8 : decode cX5_firstWaiting 8 = .ok (.ifCond .le 34, 3) := by decide +kernel
theorem dX5_firstWaiting_11 : decode cX5_firstWaiting 11 = .ok (.aload_n 0, 1) := by decide +kernel
theorem dX5_firstWaiting_12 : decode cX5_firstWaiting 12 = .ok (.getfield 26, 3) := by decide +kernel
theorem dX5_firstWaiting_15 : decode cX5_firstWaiting 15 = .ok (.iload_n 3, 1) := by decide +kernel
theorem dX5_firstWaiting_16 : decode cX5_firstWaiting 16 = .ok (.iaload, 1) := by decide +kernel
theorem dX5_firstWaiting_17 : decode cX5_firstWaiting 17 = .ok (.ifCond .ne 17, 3) := by decide +kernel
theorem dX5_firstWaiting_20 : decode cX5_firstWaiting 20 = .ok (.aload_n 0, 1) := by decide +kernel
theorem dX5_firstWaiting_21 : decode cX5_firstWaiting 21 = .ok (.getfield 35, 3) := by decide +kernel
theorem dX5_firstWaiting_24 : decode cX5_firstWaiting 24 = .ok (.iload_n 3, 1) := by decide +kernel
theorem dX5_firstWaiting_25 : decode cX5_firstWaiting 25 = .ok (.iaload, 1) := by decide +kernel
theorem dX5_firstWaiting_26 : decode cX5_firstWaiting 26 = .ok (.iload_n 1, 1) := by decide +kernel
theorem dX5_firstWaiting_27 : decode cX5_firstWaiting 27 = .ok (.if_icmp .ne 7, 3) := by decide +kernel
theorem dX5_firstWaiting_30 : decode cX5_firstWaiting 30 = .ok (.iload_n 3, 1) := by decide +kernel
theorem dX5_firstWaiting_31 : decode cX5_firstWaiting 31 = .ok (.goto 4, 3) := by decide +kernel
theorem dX5_firstWaiting_34 : decode cX5_firstWaiting 34 = .ok (.iload_n 2, 1) := by decide +kernel
theorem dX5_firstWaiting_35 : decode cX5_firstWaiting 35 = .ok (.istore_n 2, 1) := by decide +kernel
theorem dX5_firstWaiting_36 : decode cX5_firstWaiting 36 = .ok (.iinc 3 (-1), 3) := by decide +kernel
theorem dX5_firstWaiting_39 : decode cX5_firstWaiting 39 = .ok (.goto (-32), 3) := by decide +kernel
theorem dX5_firstWaiting_42 : decode cX5_firstWaiting 42 = .ok (.iload_n 2, 1) := by decide +kernel
theorem dX5_firstWaiting_43 : decode cX5_firstWaiting 43 = .ok (.ireturn, 1) := by decide +kernel
set_option maxRecDepth 20000 in
theorem ggX5_putOn_X5_firstWaiting : GoodIn wsX5_putOn wsX5_firstWaiting := goodIn_r _ [12, 13, 6, 14, 19, 20, 21, 22, 23, 24, 25, 26, 27, 28, 29, 30, 31, 32, 33, 34, 35, 36, 37, 38, 39, 40] (by decide +kernel) (by decide +kernel)
set_option maxRecDepth 20000 in
theorem gX5_putOn_X5_firstWaiting : GoodIn wsX5_putOn (wsV RX5 98 RX5 yX5_firstWaiting wsX5_firstWaiting) := goodIn_app (goodIn_of _ (by decide +kernel)) ggX5_putOn_X5_firstWaiting
set_option maxRecDepth 20000 in
theorem ggX5_putOn_X5_before : GoodIn wsX5_putOn wsX5_before := goodIn_r _ [18, 1, 19, 20, 21, 22, 23, 24, 25, 26, 27, 28, 29, 30, 31, 32, 33, 34, 35, 36, 37, 38, 39, 40] (by decide +kernel) (by decide +kernel)
set_option maxRecDepth 20000 in
theorem gX5_putOn_X5_before : GoodIn wsX5_putOn (wsV RX5 81 RX5 yX5_before wsX5_before) := goodIn_app (goodIn_of _ (by decide +kernel)) ggX5_putOn_X5_before
theorem dX5_putOn_0 : decode cX5_putOn 0 = .ok (.aload_n 0, 1) := by decide +kernel
theorem dX5_putOn_1 : decode cX5_putOn 1 = .ok (.iload_n 1, 1) := by decide +kernel
theorem dX5_putOn_2 : decode cX5_putOn 2 = .ok (.invokevirtual 98, 3) := by decide +kernel
theorem dX5_putOn_5 : decode cX5_putOn 5 = .ok (.istore_n 2, 1) := by decide +kernel
theorem dX5_putOn_6 : decode cX5_putOn 6 = .ok (.iload_n 1, 1) := by decide +kernel
theorem dX5_putOn_7 : decode cX5_putOn 7 = .ok (.aload_n 0, 1) := by decide +kernel
theorem dX5_putOn_8 : decode cX5_putOn 8 = .ok (.getfield 61, 3) := by decide +kernel
theorem dX5_putOn_11 : decode cX5_putOn 11 = .ok (.imul, 1) := by decide +kernel
theorem dX5_putOn_12 : decode cX5_putOn 12 = .ok (.iconst 4, 1) := by decide +kernel
theorem dX5_putOn_13 : decode cX5_putOn 13 = .ok (.idiv, 1) := by decide +kernel
theorem dX5_putOn_14 : decode cX5_putOn 14 = .ok (.istore_n 3, 1) := by decide +kernel
theorem dX5_putOn_15 : decode cX5_putOn 15 = .ok (.iload_n 2, 1) := by decide +kernel
theorem dX5_putOn_16 : decode cX5_putOn 16 = .ok (.ifCond .eq 12, 3) := by decide +kernel
theorem dX5_putOn_19 : decode cX5_putOn 19 = .ok (.aload_n 0, 1) := by decide +kernel
theorem dX5_putOn_20 : decode cX5_putOn 20 = .ok (.getfield 13, 3) := by decide +kernel
theorem dX5_putOn_23 : decode cX5_putOn 23 = .ok (.iload_n 3, 1) := by decide +kernel
theorem dX5_putOn_24 : decode cX5_putOn 24 = .ok (.iaload, 1) := by decide +kernel
theorem dX5_putOn_25 : decode cX5_putOn 25 = .ok (.ifCond .eq 4, 3) := by decide +kernel
theorem dX5_putOn_28 : decode cX5_putOn 28 = .ok (.return_, 1) := by decide +kernel
theorem dX5_putOn_29 : decode cX5_putOn 29 = .ok (.aload_n 0, 1) := by decide +kernel
theorem dX5_putOn_30 : decode cX5_putOn 30 = .ok (.getfield 20, 3) := by decide +kernel
theorem dX5_putOn_33 : decode cX5_putOn 33 = .ok (.iload_n 2, 1) := by decide +kernel
theorem dX5_putOn_34 : decode cX5_putOn 34 = .ok (.iaload, 1) := by decide +kernel
theorem dX5_putOn_35 : decode cX5_putOn 35 = .ok (.iconst 2, 1) := by decide +kernel
theorem dX5_putOn_36 : decode cX5_putOn 36 = .ok (.if_icmp .ne 25, 3) := by decide +kernel
theorem dX5_putOn_39 : decode cX5_putOn 39 = .ok (.aload_n 0, 1) := by decide +kernel
theorem dX5_putOn_40 : decode cX5_putOn 40 = .ok (.getfield 61, 3) := by decide +kernel
theorem dX5_putOn_43 : decode cX5_putOn 43 = .ok (.iconst 1, 1) := by decide +kernel
theorem dX5_putOn_44 : decode cX5_putOn 44 = .ok (.if_icmp .eq 16, 3) := by decide +kernel
theorem dX5_putOn_47 : decode cX5_putOn 47 = .ok (.aload_n 0, 1) := by decide +kernel
theorem dX5_putOn_48 : decode cX5_putOn 48 = .ok (.getfield 13, 3) := by decide +kernel
theorem dX5_putOn_51 : decode cX5_putOn 51 = .ok (.aload_n 0, 1) := by decide +kernel
theorem dX5_putOn_52 : decode cX5_putOn 52 = .ok (.iload_n 3, 1) := by decide +kernel
theorem dX5_putOn_53 : decode cX5_putOn 53 = .ok (.invokevirtual 81, 3) := by decide +kernel
theorem dX5_putOn_56 : decode cX5_putOn 56 = .ok (.iaload, 1) := by decide +kernel
theorem dX5_putOn_57 : decode cX5_putOn 57 = .ok (.ifCond .eq 4, 3) := by decide +kernel
theorem dX5_putOn_60 : decode cX5_putOn 60 = .ok (.return_, 1) := by decide +kernel
theorem dX5_putOn_61 : decode cX5_putOn 61 = .ok (.aload_n 0, 1) := by decide +kernel
theorem dX5_putOn_62 : decode cX5_putOn 62 = .ok (.getfield 13, 3) := by decide +kernel
theorem dX5_putOn_65 : decode cX5_putOn 65 = .ok (.iload_n 3, 1) := by decide +kernel
theorem dX5_putOn_66 : decode cX5_putOn 66 = .ok (.iload_n 2, 1) := by decide +kernel
theorem dX5_putOn_67 : decode cX5_putOn 67 = .ok (.iastore, 1) := by decide +kernel
theorem dX5_putOn_68 : decode cX5_putOn 68 = .ok (.aload_n 0, 1) := by decide +kernel
theorem dX5_putOn_69 : decode cX5_putOn 69 = .ok (.getfield 20, 3) := by decide +kernel
theorem dX5_putOn_72 : decode cX5_putOn 72 = .ok (.iload_n 2, 1) := by decide +kernel
theorem dX5_putOn_73 : decode cX5_putOn 73 = .ok (.iaload, 1) := by decide +kernel
theorem dX5_putOn_74 : decode cX5_putOn 74 = .ok (.iconst 2, 1) := by decide +kernel
theorem dX5_putOn_75 : decode cX5_putOn 75 = .ok (.if_icmp .ne 14, 3) := by decide +kernel
theorem dX5_putOn_78 : decode cX5_putOn 78 = .ok (.aload_n 0, 1) := by decide +kernel
theorem dX5_putOn_79 : decode cX5_putOn 79 = .ok (.getfield 13, 3) := by decide +kernel
theorem dX5_putOn_82 : decode cX5_putOn 82 = .ok (.aload_n 0, 1) := by decide +kernel
theorem dX5_putOn_83 : decode cX5_putOn 83 = .ok (.iload_n 3, 1) := by decide +kernel
theorem dX5_putOn_84 : decode cX5_putOn 84 = .ok (.invokevirtual 81, 3) := by decide +kernel
theorem dX5_putOn_87 : decode cX5_putOn 87 = .ok (.iload_n 2, 1) := by decide +kernel
theorem dX5_putOn_88 : decode cX5_putOn 88 = .ok (.iastore, 1) := by decide +kernel
theorem dX5_putOn_89 : decode cX5_putOn 89 = .ok (.aload_n 0, 1) := by decide +kernel
theorem dX5_putOn_90 : decode cX5_putOn 90 = .ok (.getfield 29, 3) := by decide +kernel
theorem dX5_putOn_93 : decode cX5_putOn 93 = .ok (.iload_n 2, 1) := by decide +kernel
theorem dX5_putOn_94 : decode cX5_putOn 94 = .ok (.aload_n 0, 1) := by decide +kernel
theorem dX5_putOn_95 : decode cX5_putOn 95 = .ok (.getfield 7, 3) := by decide +kernel
theorem dX5_putOn_98 : decode cX5_putOn 98 = .ok (.iload_n 3, 1) := by decide +kernel
theorem dX5_putOn_99 : decode cX5_putOn 99 = .ok (.iaload, 1) := by decide +kernel
theorem dX5_putOn_100 : decode cX5_putOn 100 = .ok (.iastore, 1) := by decide +kernel
theorem dX5_putOn_101 : decode cX5_putOn 101 = .ok (.aload_n 0, 1) := by decide +kernel
theorem dX5_putOn_102 : decode cX5_putOn 102 = .ok (.getfield 26, 3) := by decide +kernel
theorem dX5_putOn_105 : decode cX5_putOn 105 = .ok (.iload_n 2, 1) := by decide +kernel
theorem dX5_putOn_106 : decode cX5_putOn 106 = .ok (.iconst 1, 1) := by decide +kernel
theorem dX5_putOn_107 : decode cX5_putOn 107 = .ok (.iastore, 1) := by decide +kernel
theorem dX5_putOn_108 : decode cX5_putOn 108 = .ok (.aload_n 0, 1) := by decide +kernel
theorem dX5_putOn_109 : decode cX5_putOn 109 = .ok (.getfield 38, 3) := by decide +kernel
theorem dX5_putOn_112 : decode cX5_putOn 112 = .ok (.iload_n 1, 1) := by decide +kernel
theorem dX5_putOn_113 : decode cX5_putOn 113 = .ok (.dup2, 1) := by decide +kernel
theorem dX5_putOn_114 : decode cX5_putOn 114 = .ok (.laload, 1) := by decide +kernel
theorem dX5_putOn_115 : decode cX5_putOn 115 = .ok (.lconst 1, 1) := by decide +kernel
theorem dX5_putOn_116 : decode cX5_putOn 116 = .ok (.ladd, 1) := by decide +kernel
theorem dX5_putOn_117 : decode cX5_putOn 117 = .ok (.lastore, 1) := by decide +kernel
theorem dX5_putOn_118 : decode cX5_putOn 118 = .ok (.return_, 1) := by decide +kernel
set_option maxRecDepth 20000 in
theorem ggX5_turns_X5_putOn : GoodIn wsX5_turns wsX5_putOn := goodIn_r _ [7, 8, 9, 10, 11, 12, 13, 2, 14, 15, 16, 6, 17, 18, 19, 20, 21, 22, 23, 24, 25, 26, 27, 28, 29, 30, 31, 32, 33, 34, 35, 36, 37, 38, 39, 40, 41, 42, 43, 44, 45] (by decide +kernel) (by decide +kernel)
set_option maxRecDepth 20000 in
theorem gX5_turns_X5_putOn : GoodIn wsX5_turns (wsV RX5 101 RX5 yX5_putOn wsX5_putOn) := goodIn_app (goodIn_of _ (by decide +kernel)) ggX5_turns_X5_putOn
theorem dX5_turns_0 : decode cX5_turns 0 = .ok (.iconst 0, 1) := by decide +kernel
theorem dX5_turns_1 : decode cX5_turns 1 = .ok (.istore_n 1, 1) := by decide +kernel
theorem dX5_turns_2 : decode cX5_turns 2 = .ok (.iload_n 1, 1) := by decide +kernel
theorem dX5_turns_3 : decode cX5_turns 3 = .ok (.iconst 4, 1) := by decide +kernel
theorem dX5_turns_4 : decode cX5_turns 4 = .ok (.if_icmp .ge 16, 3) := by decide +kernel
theorem dX5_turns_7 : decode cX5_turns 7 = .ok (.aload_n 0, 1) := by decide +kernel
theorem dX5_turns_8 : decode cX5_turns 8 = .ok (.getfield 58, 3) := by decide +kernel
theorem dX5_turns_11 : decode cX5_turns 11 = .ok (.iload_n 1, 1) := by decide +kernel
theorem dX5_turns_12 : decode cX5_turns 12 = .ok (.iconst 0, 1) := by decide +kernel
theorem dX5_turns_13 : decode cX5_turns 13 = .ok (.bastore, 1) := by decide +kernel
theorem dX5_turns_14 : decode cX5_turns 14 = .ok (.iinc 1 1, 3) := by decide +kernel
theorem dX5_turns_17 : decode cX5_turns 17 = .ok (.goto (-15), 3) := by decide +kernel
theorem dX5_turns_20 : decode cX5_turns 20 = .ok (.iconst 0, 1) := by decide +kernel
theorem dX5_turns_21 : decode cX5_turns 21 = .ok (.istore_n 1, 1) := by decide +kernel
theorem dX5_turns_22 : decode cX5_turns 22 = .ok (.iload_n 1, 1) := by decide +kernel
theorem dX5_turns_23 : decode cX5_turns 23 = .ok (.iconst 4, 1) := by decide +kernel
theorem dX5_turns_24 : decode cX5_turns 24 = .ok (.if_icmp .ge 67, 3) := by decide +kernel
theorem dX5_turns_27 : decode cX5_turns 27 = .ok (.iconst (-1), 1) := by decide +kernel
theorem dX5_turns_28 : decode cX5_turns 28 = .ok (.istore_n 2, 1) := by decide +kernel
theorem dX5_turns_29 : decode cX5_turns 29 = .ok (.iconst 0, 1) := by decide +kernel
theorem dX5_turns_30 : decode cX5_turns 30 = .ok (.istore_n 3, 1) := by decide +kernel
theorem dX5_turns_31 : decode cX5_turns 31 = .ok (.iload_n 3, 1) := by decide +kernel
theorem dX5_turns_32 : decode cX5_turns 32 = .ok (.iconst 4, 1) := by decide +kernel
theorem dX5_turns_33 : decode cX5_turns 33 = .ok (.if_icmp .ge 40, 3) := by decide +kernel
theorem dX5_turns_36 : decode cX5_turns 36 = .ok (.aload_n 0, 1) := by decide +kernel
theorem dX5_turns_37 : decode cX5_turns 37 = .ok (.getfield 58, 3) := by decide +kernel
theorem dX5_turns_40 : decode cX5_turns 40 = .ok (.iload_n 3, 1) := by decide +kernel
theorem dX5_turns_41 : decode cX5_turns 41 = .ok (.baload, 1) := by decide +kernel
theorem dX5_turns_42 : decode cX5_turns 42 = .ok (.ifCond .ne 25, 3) := by decide +kernel
theorem dX5_turns_45 : decode cX5_turns 45 = .ok (.iload_n 2, 1) := by decide +kernel
theorem dX5_turns_46 : decode cX5_turns 46 = .ok (.ifCond .lt 19, 3) := by decide +kernel
theorem dX5_turns_49 : decode cX5_turns 49 = .ok (.aload_n 0, 1) := by decide +kernel
theorem dX5_turns_50 : decode cX5_turns 50 = .ok (.getfield 38, 3) := by decide +kernel
theorem dX5_turns_53 : decode cX5_turns 53 = .ok (.iload_n 3, 1) := by decide +kernel
theorem dX5_turns_54 : decode cX5_turns 54 = .ok (.laload, 1) := by decide +kernel
theorem dX5_turns_55 : decode cX5_turns 55 = .ok (.aload_n 0, 1) := by decide +kernel
theorem dX5_turns_56 : decode cX5_turns 56 = .ok (.getfield 38, 3) := by decide +kernel
theorem dX5_turns_59 : decode cX5_turns 59 = .ok (.iload_n 2, 1) := by decide +kernel
theorem dX5_turns_60 : decode cX5_turns 60 = .ok (.laload, 1) := by decide +kernel
theorem dX5_turns_61 : decode cX5_turns 61 = .ok (.lcmp, 1) := by decide +kernel
theorem dX5_turns_62 : decode cX5_turns 62 = .ok (.ifCond .ge 5, 3) := by decide +kernel
theorem dX5_turns_65 : decode cX5_turns 65 = .ok (.iload_n 3, 1) := by decide +kernel
theorem dX5_turns_66 : decode cX5_turns 66 = .ok (.istore_n 2, 1) := by decide +kernel
theorem dX5_turns_67 : decode cX5_turns 67 = .ok (.iinc 3 1, 3) := by decide +kernel
theorem dX5_turns_70 : decode cX5_turns 70 = .ok (.goto (-39), 3) := by decide +kernel
theorem dX5_turns_73 : decode cX5_turns 73 = .ok (.aload_n 0, 1) := by decide +kernel
theorem dX5_turns_74 : decode cX5_turns 74 = .ok (.getfield 58, 3) := by decide +kernel
theorem dX5_turns_77 : decode cX5_turns 77 = .ok (.iload_n 2, 1) := by decide +kernel
theorem dX5_turns_78 : decode cX5_turns 78 = .ok (.iconst 1, 1) := by decide +kernel
theorem dX5_turns_79 : decode cX5_turns 79 = .ok (.bastore, 1) := by decide +kernel
theorem dX5_turns_80 : decode cX5_turns 80 = .ok (.aload_n 0, 1) := by decide +kernel
theorem dX5_turns_81 : decode cX5_turns 81 = .ok (.iload_n 2, 1) := by decide +kernel
theorem dX5_turns_82 : decode cX5_turns 82 = .ok (.invokevirtual 101, 3) := by decide +kernel
theorem dX5_turns_85 : decode cX5_turns 85 = .ok (.iinc 1 1, 3) := by decide +kernel
theorem dX5_turns_88 : decode cX5_turns 88 = .ok (.goto (-66), 3) := by decide +kernel
theorem dX5_turns_91 : decode cX5_turns 91 = .ok (.return_, 1) := by decide +kernel
set_option maxRecDepth 20000 in
theorem ggX5_step_X5_in : GoodIn wsX5_step wsX5_in := goodIn_r _ [8] (by decide +kernel) (by decide +kernel)
set_option maxRecDepth 20000 in
theorem gX5_step_X5_in : GoodIn wsX5_step (va_wsS RX5 73 yX5_in wsX5_in) := goodIn_app (goodIn_of _ (by decide +kernel)) ggX5_step_X5_in
set_option maxRecDepth 20000 in
theorem ggX5_step_X5_move : GoodIn wsX5_step wsX5_move := goodIn_r _ [12, 13, 14, 15, 59, 60, 61, 62, 63, 64, 65, 66, 67, 68, 69, 70, 71, 72, 73, 74, 75, 76, 77, 78, 79, 80] (by decide +kernel) (by decide +kernel)
set_option maxRecDepth 20000 in
theorem gX5_step_X5_move : GoodIn wsX5_step (wsV RX5 105 RX5 yX5_move wsX5_move) := goodIn_app (goodIn_of _ (by decide +kernel)) ggX5_step_X5_move
set_option maxRecDepth 20000 in
theorem ggX5_step_X5_passChute : GoodIn wsX5_step wsX5_passChute := goodIn_r _ [19, 14, 15, 20, 13, 21, 22, 23, 24, 25, 26, 27, 7, 28, 29, 30, 31, 32, 33, 34, 35, 36, 2, 37, 38, 4, 39, 40, 41, 42, 59, 60, 61, 62, 63, 64, 65, 66, 67, 68, 69, 70, 71, 72, 73, 74, 75, 76, 77, 78, 79, 80] (by decide +kernel) (by decide +kernel)
set_option maxRecDepth 20000 in
theorem gX5_step_X5_passChute : GoodIn wsX5_step (wsV RX5 108 RX5 yX5_passChute wsX5_passChute) := goodIn_app (goodIn_of _ (by decide +kernel)) ggX5_step_X5_passChute
set_option maxRecDepth 20000 in
theorem ggX5_step_X5_turns : GoodIn wsX5_step wsX5_turns := goodIn_r _ [46, 47, 48, 49, 50, 51, 7, 52, 14, 15, 35, 20, 13, 21, 53, 54, 55, 56, 57, 58, 39, 40, 41, 42, 59, 60, 61, 62, 63, 64, 65, 66, 67, 68, 69, 70, 71, 72, 73, 74, 75, 76, 77, 78, 79, 80] (by decide +kernel) (by decide +kernel)
set_option maxRecDepth 20000 in
theorem gX5_step_X5_turns : GoodIn wsX5_step (wsV RX5 111 RX5 yX5_turns wsX5_turns) := goodIn_app (goodIn_of _ (by decide +kernel)) ggX5_step_X5_turns
theorem dX5_step_0 : decode cX5_step 0 = .ok (.aload_n 0, 1) := by decide +kernel
theorem dX5_step_1 : decode cX5_step 1 = .ok (.iconst 0, 1) := by decide +kernel
theorem dX5_step_2 : decode cX5_step 2 = .ok (.putfield 67, 3) := by decide +kernel
theorem dX5_step_5 : decode cX5_step 5 = .ok (.iload_n 1, 1) := by decide +kernel
theorem dX5_step_6 : decode cX5_step 6 = .ok (.iconst 0, 1) := by decide +kernel
theorem dX5_step_7 : decode cX5_step 7 = .ok (.sipush 1000, 3) := by decide +kernel
theorem dX5_step_10 : decode cX5_step 10 = .ok (.invokestatic 73, 3) := by decide +kernel
theorem dX5_step_13 : decode cX5_step 13 = .ok (.ifCond .ne 6, 3) := by decide +kernel
theorem dX5_step_16 : decode cX5_step 16 = .ok (.bipush (-12), 2) := by decide +kernel
theorem dX5_step_18 : decode cX5_step 18 = .ok (.ireturn, 1) := by decide +kernel
theorem dX5_step_19 : decode cX5_step 19 = .ok (.aload_n 0, 1) := by decide +kernel
theorem dX5_step_20 : decode cX5_step 20 = .ok (.getfield 84, 3) := by decide +kernel
theorem dX5_step_23 : decode cX5_step 23 = .ok (.istore_n 2, 1) := by decide +kernel
theorem dX5_step_24 : decode cX5_step 24 = .ok (.iconst 0, 1) := by decide +kernel
theorem dX5_step_25 : decode cX5_step 25 = .ok (.istore_n 3, 1) := by decide +kernel
theorem dX5_step_26 : decode cX5_step 26 = .ok (.iload_n 3, 1) := by decide +kernel
theorem dX5_step_27 : decode cX5_step 27 = .ok (.iload_n 1, 1) := by decide +kernel
theorem dX5_step_28 : decode cX5_step 28 = .ok (.if_icmp .ge 67, 3) := by decide +kernel
theorem dX5_step_31 : decode cX5_step 31 = .ok (.iconst 0, 1) := by decide +kernel
theorem dX5_step_32 : decode cX5_step 32 = .ok (.istore 4, 2) := by decide +kernel
theorem dX5_step_34 : decode cX5_step 34 = .ok (.iload 4, 2) := by decide +kernel
theorem dX5_step_36 : decode cX5_step 36 = .ok (.aload_n 0, 1) := by decide +kernel
theorem dX5_step_37 : decode cX5_step 37 = .ok (.getfield 16, 3) := by decide +kernel
theorem dX5_step_40 : decode cX5_step 40 = .ok (.if_icmp .ge 35, 3) := by decide +kernel
theorem dX5_step_43 : decode cX5_step 43 = .ok (.aload_n 0, 1) := by decide +kernel
theorem dX5_step_44 : decode cX5_step 44 = .ok (.invokevirtual 105, 3) := by decide +kernel
theorem dX5_step_47 : decode cX5_step 47 = .ok (.iconst 0, 1) := by decide +kernel
theorem dX5_step_48 : decode cX5_step 48 = .ok (.istore 5, 2) := by decide +kernel
theorem dX5_step_50 : decode cX5_step 50 = .ok (.iload 5, 2) := by decide +kernel
theorem dX5_step_52 : decode cX5_step 52 = .ok (.bipush 16, 2) := by decide +kernel
theorem dX5_step_54 : decode cX5_step 54 = .ok (.if_icmp .ge 15, 3) := by decide +kernel
theorem dX5_step_57 : decode cX5_step 57 = .ok (.aload_n 0, 1) := by decide +kernel
theorem dX5_step_58 : decode cX5_step 58 = .ok (.iload 5, 2) := by decide +kernel
theorem dX5_step_60 : decode cX5_step 60 = .ok (.invokevirtual 108, 3) := by decide +kernel
theorem dX5_step_63 : decode cX5_step 63 = .ok (.iinc 5 1, 3) := by decide +kernel
theorem dX5_step_66 : decode cX5_step 66 = .ok (.goto (-16), 3) := by decide +kernel
theorem dX5_step_69 : decode cX5_step 69 = .ok (.iinc 4 1, 3) := by decide +kernel
theorem dX5_step_72 : decode cX5_step 72 = .ok (.goto (-38), 3) := by decide +kernel
theorem dX5_step_75 : decode cX5_step 75 = .ok (.aload_n 0, 1) := by decide +kernel
theorem dX5_step_76 : decode cX5_step 76 = .ok (.dup, 1) := by decide +kernel
theorem dX5_step_77 : decode cX5_step 77 = .ok (.getfield 87, 3) := by decide +kernel
theorem dX5_step_80 : decode cX5_step 80 = .ok (.iconst 1, 1) := by decide +kernel
theorem dX5_step_81 : decode cX5_step 81 = .ok (.iadd, 1) := by decide +kernel
theorem dX5_step_82 : decode cX5_step 82 = .ok (.putfield 87, 3) := by decide +kernel
theorem dX5_step_85 : decode cX5_step 85 = .ok (.aload_n 0, 1) := by decide +kernel
theorem dX5_step_86 : decode cX5_step 86 = .ok (.invokevirtual 111, 3) := by decide +kernel
theorem dX5_step_89 : decode cX5_step 89 = .ok (.iinc 3 1, 3) := by decide +kernel
theorem dX5_step_92 : decode cX5_step 92 = .ok (.goto (-66), 3) := by decide +kernel
theorem dX5_step_95 : decode cX5_step 95 = .ok (.aload_n 0, 1) := by decide +kernel
theorem dX5_step_96 : decode cX5_step 96 = .ok (.getfield 84, 3) := by decide +kernel
theorem dX5_step_99 : decode cX5_step 99 = .ok (.iload_n 2, 1) := by decide +kernel
theorem dX5_step_100 : decode cX5_step 100 = .ok (.isub, 1) := by decide +kernel
theorem dX5_step_101 : decode cX5_step 101 = .ok (.ireturn, 1) := by decide +kernel
set_option maxRecDepth 20000 in
theorem ggX5_out_X5_in : GoodIn wsX5_out wsX5_in := goodIn_r _ [10] (by decide +kernel) (by decide +kernel)
set_option maxRecDepth 20000 in
theorem gX5_out_X5_in : GoodIn wsX5_out (va_wsS RX5 73 yX5_in wsX5_in) := goodIn_app (goodIn_of _ (by decide +kernel)) ggX5_out_X5_in
theorem dX5_out_0 : decode cX5_out 0 = .ok (.aload_n 0, 1) := by decide +kernel
theorem dX5_out_1 : decode cX5_out 1 = .ok (.iconst 0, 1) := by decide +kernel
theorem dX5_out_2 : decode cX5_out 2 = .ok (.putfield 67, 3) := by decide +kernel
theorem dX5_out_5 : decode cX5_out 5 = .ok (.iload_n 1, 1) := by decide +kernel
theorem dX5_out_6 : decode cX5_out 6 = .ok (.ifCond .lt 11, 3) := by decide +kernel
theorem dX5_out_9 : decode cX5_out 9 = .ok (.iload_n 1, 1) := by decide +kernel
theorem dX5_out_10 : decode cX5_out 10 = .ok (.aload_n 0, 1) := by decide +kernel
theorem dX5_out_11 : decode cX5_out 11 = .ok (.getfield 84, 3) := by decide +kernel
theorem dX5_out_14 : decode cX5_out 14 = .ok (.if_icmp .lt 6, 3) := by decide +kernel
theorem dX5_out_17 : decode cX5_out 17 = .ok (.bipush (-11), 2) := by decide +kernel
theorem dX5_out_19 : decode cX5_out 19 = .ok (.ireturn, 1) := by decide +kernel
theorem dX5_out_20 : decode cX5_out 20 = .ok (.iload_n 2, 1) := by decide +kernel
theorem dX5_out_21 : decode cX5_out 21 = .ok (.iconst 0, 1) := by decide +kernel
theorem dX5_out_22 : decode cX5_out 22 = .ok (.iconst 3, 1) := by decide +kernel
theorem dX5_out_23 : decode cX5_out 23 = .ok (.invokestatic 73, 3) := by decide +kernel
theorem dX5_out_26 : decode cX5_out 26 = .ok (.ifCond .ne 6, 3) := by decide +kernel
theorem dX5_out_29 : decode cX5_out 29 = .ok (.bipush (-12), 2) := by decide +kernel
theorem dX5_out_31 : decode cX5_out 31 = .ok (.ireturn, 1) := by decide +kernel
theorem dX5_out_32 : decode cX5_out 32 = .ok (.iload_n 2, 1) := by decide +kernel
theorem dX5_out_33 : decode cX5_out 33 = .ok (.ifCond .ne 12, 3) := by decide +kernel
theorem dX5_out_36 : decode cX5_out 36 = .ok (.aload_n 0, 1) := by decide +kernel
theorem dX5_out_37 : decode cX5_out 37 = .ok (.getfield 49, 3) := by decide +kernel
theorem dX5_out_40 : decode cX5_out 40 = .ok (.iload_n 1, 1) := by decide +kernel
theorem dX5_out_41 : decode cX5_out 41 = .ok (.iaload, 1) := by decide +kernel
theorem dX5_out_42 : decode cX5_out 42 = .ok (.goto 42, 3) := by decide +kernel
theorem dX5_out_45 : decode cX5_out 45 = .ok (.iload_n 2, 1) := by decide +kernel
theorem dX5_out_46 : decode cX5_out 46 = .ok (.iconst 1, 1) := by decide +kernel
theorem dX5_out_47 : decode cX5_out 47 = .ok (.if_icmp .ne 12, 3) := by decide +kernel
theorem dX5_out_50 : decode cX5_out 50 = .ok (.aload_n 0, 1) := by decide +kernel
theorem dX5_out_51 : decode cX5_out 51 = .ok (.getfield 52, 3) := by decide +kernel
theorem dX5_out_54 : decode cX5_out 54 = .ok (.iload_n 1, 1) := by decide +kernel
theorem dX5_out_55 : decode cX5_out 55 = .ok (.iaload, 1) := by decide +kernel
theorem dX5_out_56 : decode cX5_out 56 = .ok (.goto 28, 3) := by decide +kernel
theorem dX5_out_59 : decode cX5_out 59 = .ok (.iload_n 2, 1) := by decide +kernel
theorem dX5_out_60 : decode cX5_out 60 = .ok (.iconst 2, 1) := by decide +kernel
theorem dX5_out_61 : decode cX5_out 61 = .ok (.if_icmp .ne 12, 3) := by decide +kernel
theorem dX5_out_64 : decode cX5_out 64 = .ok (.aload_n 0, 1) := by decide +kernel
theorem dX5_out_65 : decode cX5_out 65 = .ok (.getfield 55, 3) := by decide +kernel
theorem dX5_out_68 : decode cX5_out 68 = .ok (.iload_n 1, 1) := by decide +kernel
theorem dX5_out_69 : decode cX5_out 69 = .ok (.iaload, 1) := by decide +kernel
theorem dX5_out_70 : decode cX5_out 70 = .ok (.goto 14, 3) := by decide +kernel
theorem dX5_out_73 : decode cX5_out 73 = .ok (.aload_n 0, 1) := by decide +kernel
theorem dX5_out_74 : decode cX5_out 74 = .ok (.getfield 32, 3) := by decide +kernel
theorem dX5_out_77 : decode cX5_out 77 = .ok (.aload_n 0, 1) := by decide +kernel
theorem dX5_out_78 : decode cX5_out 78 = .ok (.getfield 49, 3) := by decide +kernel
theorem dX5_out_81 : decode cX5_out 81 = .ok (.iload_n 1, 1) := by decide +kernel
theorem dX5_out_82 : decode cX5_out 82 = .ok (.iaload, 1) := by decide +kernel
theorem dX5_out_83 : decode cX5_out 83 = .ok (.iaload, 1) := by decide +kernel
theorem dX5_out_84 : decode cX5_out 84 = .ok (.ireturn, 1) := by decide +kernel
theorem dX5_itemOn_0 : decode cX5_itemOn 0 = .ok (.iconst 0, 1) := by decide +kernel
theorem dX5_itemOn_1 : decode cX5_itemOn 1 = .ok (.istore_n 2, 1) := by decide +kernel
theorem dX5_itemOn_2 : decode cX5_itemOn 2 = .ok (.iconst 0, 1) := by decide +kernel
theorem dX5_itemOn_3 : decode cX5_itemOn 3 = .ok (.istore_n 3, 1) := by decide +kernel
theorem dX5_itemOn_4 : decode cX5_itemOn 4 = .ok (.iload_n 3, 1) := by decide +kernel
theorem dX5_itemOn_5 : decode cX5_itemOn 5 = .ok (.aload_n 0, 1) := by decide +kernel
theorem dX5_itemOn_6 : decode cX5_itemOn 6 = .ok (.getfield 61, 3) := by decide +kernel
theorem dX5_itemOn_9 : decode cX5_itemOn 9 = .ok (.if_icmp .ge 30, 3) := by decide +kernel
theorem dX5_itemOn_12 : decode cX5_itemOn 12 = .ok (.aload_n 0, 1) := by decide +kernel
theorem dX5_itemOn_13 : decode cX5_itemOn 13 = .ok (.getfield 7, 3) := by decide +kernel
theorem dX5_itemOn_16 : decode cX5_itemOn 16 = .ok (.iload_n 3, 1) := by decide +kernel
theorem dX5_itemOn_17 : decode cX5_itemOn 17 = .ok (.iaload, 1) := by decide +kernel
theorem dX5_itemOn_18 : decode cX5_itemOn 18 = .ok (.iload_n 1, 1) := by decide +kernel
theorem dX5_itemOn_19 : decode cX5_itemOn 19 = .ok (.if_icmp .ne 12, 3) := by decide +kernel
theorem dX5_itemOn_22 : decode cX5_itemOn 22 = .ok (.aload_n 0, 1) := by decide +kernel
theorem dX5_itemOn_23 : decode cX5_itemOn 23 = .ok (.getfield 13, 3) := by decide +kernel
theorem dX5_itemOn_26 : decode cX5_itemOn 26 = .ok (.iload_n 3, 1) := by decide +kernel
theorem dX5_itemOn_27 : decode cX5_itemOn 27 = .ok (.iaload, 1) := by decide +kernel
theorem dX5_itemOn_28 : decode cX5_itemOn 28 = .ok (.goto 4, 3) := by decide +kernel
theorem dX5_itemOn_31 : decode cX5_itemOn 31 = .ok (.iload_n 2, 1) := by decide +kernel
theorem dX5_itemOn_32 : decode cX5_itemOn 32 = .ok (.istore_n 2, 1) := by decide +kernel
theorem dX5_itemOn_33 : decode cX5_itemOn 33 = .ok (.iinc 3 1, 3) := by decide +kernel
theorem dX5_itemOn_36 : decode cX5_itemOn 36 = .ok (.goto (-32), 3) := by decide +kernel
theorem dX5_itemOn_39 : decode cX5_itemOn 39 = .ok (.iload_n 2, 1) := by decide +kernel
theorem dX5_itemOn_40 : decode cX5_itemOn 40 = .ok (.ireturn, 1) := by decide +kernel
set_option maxRecDepth 20000 in
theorem ggX5_tray_X5_in : GoodIn wsX5_tray wsX5_in := goodIn_r _ [6] (by decide +kernel) (by decide +kernel)
set_option maxRecDepth 20000 in
theorem gX5_tray_X5_in : GoodIn wsX5_tray (va_wsS RX5 73 yX5_in wsX5_in) := goodIn_app (goodIn_of _ (by decide +kernel)) ggX5_tray_X5_in
set_option maxRecDepth 20000 in
theorem ggX5_tray_X5_itemOn : GoodIn wsX5_tray wsX5_itemOn := goodIn_r _ [10, 1, 11, 12, 13, 14, 15, 16, 17, 18, 19, 20, 21, 22, 23, 24, 25, 26, 27, 28, 29, 30, 31, 32, 33, 34] (by decide +kernel) (by decide +kernel)
set_option maxRecDepth 20000 in
theorem gX5_tray_X5_itemOn : GoodIn wsX5_tray (wsV RX5 114 RX5 yX5_itemOn wsX5_itemOn) := goodIn_app (goodIn_of _ (by decide +kernel)) ggX5_tray_X5_itemOn
theorem dX5_tray_0 : decode cX5_tray 0 = .ok (.aload_n 0, 1) := by decide +kernel
theorem dX5_tray_1 : decode cX5_tray 1 = .ok (.iload_n 1, 1) := by decide +kernel
theorem dX5_tray_2 : decode cX5_tray 2 = .ok (.iconst 0, 1) := by decide +kernel
theorem dX5_tray_3 : decode cX5_tray 3 = .ok (.aload_n 0, 1) := by decide +kernel
theorem dX5_tray_4 : decode cX5_tray 4 = .ok (.getfield 61, 3) := by decide +kernel
theorem dX5_tray_7 : decode cX5_tray 7 = .ok (.iconst 1, 1) := by decide +kernel
theorem dX5_tray_8 : decode cX5_tray 8 = .ok (.isub, 1) := by decide +kernel
theorem dX5_tray_9 : decode cX5_tray 9 = .ok (.invokestatic 73, 3) := by decide +kernel
theorem dX5_tray_12 : decode cX5_tray 12 = .ok (.ifCond .eq 7, 3) := by decide +kernel
theorem dX5_tray_15 : decode cX5_tray 15 = .ok (.iconst 0, 1) := by decide +kernel
theorem dX5_tray_16 : decode cX5_tray 16 = .ok (.goto 4, 3) := by decide +kernel
theorem dX5_tray_19 : decode cX5_tray 19 = .ok (.iconst 1, 1) := by decide +kernel
theorem dX5_tray_20 : decode cX5_tray 20 = .ok (.putfield 67, 3) := by decide +kernel
theorem dX5_tray_23 : decode cX5_tray 23 = .ok (.aload_n 0, 1) := by decide +kernel
theorem dX5_tray_24 : decode cX5_tray 24 = .ok (.getfield 67, 3) := by decide +kernel
theorem dX5_tray_27 : decode cX5_tray 27 = .ok (.ifCond .le 7, 3) := by decide +kernel
theorem dX5_tray_30 : decode cX5_tray 30 = .ok (.iconst 0, 1) := by decide +kernel
theorem dX5_tray_31 : decode cX5_tray 31 = .ok (.goto 8, 3) := by decide +kernel
theorem dX5_tray_34 : decode cX5_tray 34 = .ok (.aload_n 0, 1) := by decide +kernel
theorem dX5_tray_35 : decode cX5_tray 35 = .ok (.iload_n 1, 1) := by decide +kernel
theorem dX5_tray_36 : decode cX5_tray 36 = .ok (.invokevirtual 114, 3) := by decide +kernel
theorem dX5_tray_39 : decode cX5_tray 39 = .ok (.ireturn, 1) := by decide +kernel
set_option maxRecDepth 20000 in
theorem ggX5_full_X5_in : GoodIn wsX5_full wsX5_in := goodIn_r _ [7] (by decide +kernel) (by decide +kernel)
set_option maxRecDepth 20000 in
theorem gX5_full_X5_in : GoodIn wsX5_full (va_wsS RX5 73 yX5_in wsX5_in) := goodIn_app (goodIn_of _ (by decide +kernel)) ggX5_full_X5_in
theorem dX5_full_0 : decode cX5_full 0 = .ok (.aload_n 0, 1) := by decide +kernel
theorem dX5_full_1 : decode cX5_full 1 = .ok (.iconst 0, 1) := by decide +kernel
theorem dX5_full_2 : decode cX5_full 2 = .ok (.putfield 67, 3) := by decide +kernel
theorem dX5_full_5 : decode cX5_full 5 = .ok (.iload_n 1, 1) := by decide +kernel
theorem dX5_full_6 : decode cX5_full 6 = .ok (.iconst 0, 1) := by decide +kernel
theorem dX5_full_7 : decode cX5_full 7 = .ok (.bipush 15, 2) := by decide +kernel
theorem dX5_full_9 : decode cX5_full 9 = .ok (.invokestatic 73, 3) := by decide +kernel
theorem dX5_full_12 : decode cX5_full 12 = .ok (.ifCond .ne 6, 3) := by decide +kernel
theorem dX5_full_15 : decode cX5_full 15 = .ok (.bipush (-11), 2) := by decide +kernel
theorem dX5_full_17 : decode cX5_full 17 = .ok (.ireturn, 1) := by decide +kernel
theorem dX5_full_18 : decode cX5_full 18 = .ok (.iload_n 2, 1) := by decide +kernel
theorem dX5_full_19 : decode cX5_full 19 = .ok (.ifCond .eq 12, 3) := by decide +kernel
theorem dX5_full_22 : decode cX5_full 22 = .ok (.iload_n 1, 1) := by decide +kernel
theorem dX5_full_23 : decode cX5_full 23 = .ok (.bipush 15, 2) := by decide +kernel
theorem dX5_full_25 : decode cX5_full 25 = .ok (.if_icmp .ne 6, 3) := by decide +kernel
theorem dX5_full_28 : decode cX5_full 28 = .ok (.bipush (-13), 2) := by decide +kernel
theorem dX5_full_30 : decode cX5_full 30 = .ok (.ireturn, 1) := by decide +kernel
theorem dX5_full_31 : decode cX5_full 31 = .ok (.aload_n 0, 1) := by decide +kernel
theorem dX5_full_32 : decode cX5_full 32 = .ok (.getfield 42, 3) := by decide +kernel
theorem dX5_full_35 : decode cX5_full 35 = .ok (.iload_n 1, 1) := by decide +kernel
theorem dX5_full_36 : decode cX5_full 36 = .ok (.iaload, 1) := by decide +kernel
theorem dX5_full_37 : decode cX5_full 37 = .ok (.istore_n 3, 1) := by decide +kernel
theorem dX5_full_38 : decode cX5_full 38 = .ok (.aload_n 0, 1) := by decide +kernel
theorem dX5_full_39 : decode cX5_full 39 = .ok (.getfield 45, 3) := by decide +kernel
theorem dX5_full_42 : decode cX5_full 42 = .ok (.iload_n 1, 1) := by decide +kernel
theorem dX5_full_43 : decode cX5_full 43 = .ok (.iload_n 2, 1) := by decide +kernel
theorem dX5_full_44 : decode cX5_full 44 = .ok (.bastore, 1) := by decide +kernel
theorem dX5_full_45 : decode cX5_full 45 = .ok (.aload_n 0, 1) := by decide +kernel
theorem dX5_full_46 : decode cX5_full 46 = .ok (.getfield 42, 3) := by decide +kernel
theorem dX5_full_49 : decode cX5_full 49 = .ok (.iload_n 1, 1) := by decide +kernel
theorem dX5_full_50 : decode cX5_full 50 = .ok (.iload_n 2, 1) := by decide +kernel
theorem dX5_full_51 : decode cX5_full 51 = .ok (.ifCond .eq 7, 3) := by decide +kernel
theorem dX5_full_54 : decode cX5_full 54 = .ok (.iload_n 3, 1) := by decide +kernel
theorem dX5_full_55 : decode cX5_full 55 = .ok (.goto 4, 3) := by decide +kernel
theorem dX5_full_58 : decode cX5_full 58 = .ok (.iconst 0, 1) := by decide +kernel
theorem dX5_full_59 : decode cX5_full 59 = .ok (.iastore, 1) := by decide +kernel
theorem dX5_full_60 : decode cX5_full 60 = .ok (.iload_n 3, 1) := by decide +kernel
theorem dX5_full_61 : decode cX5_full 61 = .ok (.ireturn, 1) := by decide +kernel
set_option maxRecDepth 20000 in
theorem ggX5_isItem_X5_in : GoodIn wsX5_isItem wsX5_in := goodIn_r _ [5] (by decide +kernel) (by decide +kernel)
set_option maxRecDepth 20000 in
theorem gX5_isItem_X5_in : GoodIn wsX5_isItem (va_wsS RX5 73 yX5_in wsX5_in) := goodIn_app (goodIn_of _ (by decide +kernel)) ggX5_isItem_X5_in
theorem dX5_isItem_0 : decode cX5_isItem 0 = .ok (.iload_n 1, 1) := by decide +kernel
end
section
theorem dX5_isItem_1 : decode cX5_isItem 1 = .ok (.iconst 1, 1) := by decide +kernel
theorem dX5_isItem_2 : decode cX5_isItem 2 = .ok (.aload_n 0, 1) := by decide +kernel
theorem dX5_isItem_3 : decode cX5_isItem 3 = .ok (.getfield 70, 3) := by decide +kernel
theorem dX5_isItem_6 : decode cX5_isItem 6 = .ok (.invokestatic 73, 3) := by decide +kernel
theorem dX5_isItem_9 : decode cX5_isItem 9 = .ok (.ireturn, 1) := by decide +kernel
set_option maxRecDepth 20000 in
theorem ggX5_missed_X5_isItem : GoodIn wsX5_missed wsX5_isItem := goodIn_r _ [8, 9, 10, 11, 7, 12, 13, 14, 15, 16, 17, 18, 19, 20, 21, 22, 23, 24, 25, 26, 27, 28, 29, 30, 31, 32, 33, 34] (by decide +kernel) (by decide +kernel)
set_option maxRecDepth 20000 in
theorem gX5_missed_X5_isItem : GoodIn wsX5_missed (wsV RX5 117 RX5 yX5_isItem wsX5_isItem) := goodIn_app (goodIn_of _ (by decide +kernel)) ggX5_missed_X5_isItem
theorem dX5_missed_0 : decode cX5_missed 0 = .ok (.aload_n 0, 1) := by decide +kernel
theorem dX5_missed_1 : decode cX5_missed 1 = .ok (.iconst 0, 1) := by decide +kernel
theorem dX5_missed_2 : decode cX5_missed 2 = .ok (.putfield 67, 3) := by decide +kernel
theorem dX5_missed_5 : decode cX5_missed 5 = .ok (.aload_n 0, 1) := by decide +kernel
theorem dX5_missed_6 : decode cX5_missed 6 = .ok (.iload_n 1, 1) := by decide +kernel
theorem dX5_missed_7 : decode cX5_missed 7 = .ok (.invokevirtual 117, 3) := by decide +kernel
theorem dX5_missed_10 : decode cX5_missed 10 = .ok (.ifCond .ne 6, 3) := by decide +kernel
theorem dX5_missed_13 : decode cX5_missed 13 = .ok (.bipush (-11), 2) := by decide +kernel
theorem dX5_missed_15 : decode cX5_missed 15 = .ok (.ireturn, 1) := by decide +kernel
theorem dX5_missed_16 : decode cX5_missed 16 = .ok (.aload_n 0, 1) := by decide +kernel
theorem dX5_missed_17 : decode cX5_missed 17 = .ok (.getfield 26, 3) := by decide +kernel
theorem dX5_missed_20 : decode cX5_missed 20 = .ok (.iload_n 1, 1) := by decide +kernel
theorem dX5_missed_21 : decode cX5_missed 21 = .ok (.iaload, 1) := by decide +kernel
theorem dX5_missed_22 : decode cX5_missed 22 = .ok (.iconst 1, 1) := by decide +kernel
theorem dX5_missed_23 : decode cX5_missed 23 = .ok (.if_icmp .eq 6, 3) := by decide +kernel
theorem dX5_missed_26 : decode cX5_missed 26 = .ok (.bipush (-13), 2) := by decide +kernel
theorem dX5_missed_28 : decode cX5_missed 28 = .ok (.ireturn, 1) := by decide +kernel
theorem dX5_missed_29 : decode cX5_missed 29 = .ok (.aload_n 0, 1) := by decide +kernel
theorem dX5_missed_30 : decode cX5_missed 30 = .ok (.getfield 26, 3) := by decide +kernel
theorem dX5_missed_33 : decode cX5_missed 33 = .ok (.iload_n 1, 1) := by decide +kernel
theorem dX5_missed_34 : decode cX5_missed 34 = .ok (.iconst 2, 1) := by decide +kernel
theorem dX5_missed_35 : decode cX5_missed 35 = .ok (.iastore, 1) := by decide +kernel
theorem dX5_missed_36 : decode cX5_missed 36 = .ok (.aload_n 0, 1) := by decide +kernel
theorem dX5_missed_37 : decode cX5_missed 37 = .ok (.getfield 29, 3) := by decide +kernel
theorem dX5_missed_40 : decode cX5_missed 40 = .ok (.iload_n 1, 1) := by decide +kernel
theorem dX5_missed_41 : decode cX5_missed 41 = .ok (.iaload, 1) := by decide +kernel
theorem dX5_missed_42 : decode cX5_missed 42 = .ok (.ireturn, 1) := by decide +kernel
set_option maxRecDepth 20000 in
theorem ggX5_found_X5_isItem : GoodIn wsX5_found wsX5_isItem := goodIn_r _ [9, 10, 11, 12, 8, 13, 14, 15, 16, 17, 18, 19, 20, 21, 22, 23, 24, 25, 26, 27, 28, 29, 30, 31, 32, 33, 34, 35] (by decide +kernel) (by decide +kernel)
set_option maxRecDepth 20000 in
theorem gX5_found_X5_isItem : GoodIn wsX5_found (wsV RX5 117 RX5 yX5_isItem wsX5_isItem) := goodIn_app (goodIn_of _ (by decide +kernel)) ggX5_found_X5_isItem
set_option maxRecDepth 20000 in
theorem ggX5_found_X5_in : GoodIn wsX5_found wsX5_in := goodIn_r _ [13] (by decide +kernel) (by decide +kernel)
set_option maxRecDepth 20000 in
theorem gX5_found_X5_in : GoodIn wsX5_found (va_wsS RX5 73 yX5_in wsX5_in) := goodIn_app (goodIn_of _ (by decide +kernel)) ggX5_found_X5_in
theorem dX5_found_0 : decode cX5_found 0 = .ok (.aload_n 0, 1) := by decide +kernel
theorem dX5_found_1 : decode cX5_found 1 = .ok (.iconst 0, 1) := by decide +kernel
theorem dX5_found_2 : decode cX5_found 2 = .ok (.putfield 67, 3) := by decide +kernel
theorem dX5_found_5 : decode cX5_found 5 = .ok (.aload_n 0, 1) := by decide +kernel
theorem dX5_found_6 : decode cX5_found 6 = .ok (.iload_n 1, 1) := by decide +kernel
theorem dX5_found_7 : decode cX5_found 7 = .ok (.invokevirtual 117, 3) := by decide +kernel
theorem dX5_found_10 : decode cX5_found 10 = .ok (.ifCond .ne 6, 3) := by decide +kernel
theorem dX5_found_13 : decode cX5_found 13 = .ok (.bipush (-11), 2) := by decide +kernel
theorem dX5_found_15 : decode cX5_found 15 = .ok (.ireturn, 1) := by decide +kernel
theorem dX5_found_16 : decode cX5_found 16 = .ok (.aload_n 0, 1) := by decide +kernel
theorem dX5_found_17 : decode cX5_found 17 = .ok (.getfield 26, 3) := by decide +kernel
theorem dX5_found_20 : decode cX5_found 20 = .ok (.iload_n 1, 1) := by decide +kernel
theorem dX5_found_21 : decode cX5_found 21 = .ok (.iaload, 1) := by decide +kernel
theorem dX5_found_22 : decode cX5_found 22 = .ok (.iconst 2, 1) := by decide +kernel
theorem dX5_found_23 : decode cX5_found 23 = .ok (.if_icmp .eq 6, 3) := by decide +kernel
theorem dX5_found_26 : decode cX5_found 26 = .ok (.bipush (-13), 2) := by decide +kernel
theorem dX5_found_28 : decode cX5_found 28 = .ok (.ireturn, 1) := by decide +kernel
theorem dX5_found_29 : decode cX5_found 29 = .ok (.aload_n 0, 1) := by decide +kernel
theorem dX5_found_30 : decode cX5_found 30 = .ok (.iload_n 2, 1) := by decide +kernel
theorem dX5_found_31 : decode cX5_found 31 = .ok (.iconst 0, 1) := by decide +kernel
theorem dX5_found_32 : decode cX5_found 32 = .ok (.aload_n 0, 1) := by decide +kernel
theorem dX5_found_33 : decode cX5_found 33 = .ok (.getfield 61, 3) := by decide +kernel
theorem dX5_found_36 : decode cX5_found 36 = .ok (.iconst 1, 1) := by decide +kernel
theorem dX5_found_37 : decode cX5_found 37 = .ok (.isub, 1) := by decide +kernel
theorem dX5_found_38 : decode cX5_found 38 = .ok (.invokestatic 73, 3) := by decide +kernel
theorem dX5_found_41 : decode cX5_found 41 = .ok (.ifCond .eq 7, 3) := by decide +kernel
theorem dX5_found_44 : decode cX5_found 44 = .ok (.iconst 0, 1) := by decide +kernel
theorem dX5_found_45 : decode cX5_found 45 = .ok (.goto 4, 3) := by decide +kernel
theorem dX5_found_48 : decode cX5_found 48 = .ok (.iconst 1, 1) := by decide +kernel
theorem dX5_found_49 : decode cX5_found 49 = .ok (.putfield 67, 3) := by decide +kernel
theorem dX5_found_52 : decode cX5_found 52 = .ok (.aload_n 0, 1) := by decide +kernel
theorem dX5_found_53 : decode cX5_found 53 = .ok (.getfield 67, 3) := by decide +kernel
theorem dX5_found_56 : decode cX5_found 56 = .ok (.ifCond .gt 13, 3) := by decide +kernel
theorem dX5_found_59 : decode cX5_found 59 = .ok (.aload_n 0, 1) := by decide +kernel
theorem dX5_found_60 : decode cX5_found 60 = .ok (.getfield 29, 3) := by decide +kernel
theorem dX5_found_63 : decode cX5_found 63 = .ok (.iload_n 1, 1) := by decide +kernel
theorem dX5_found_64 : decode cX5_found 64 = .ok (.iaload, 1) := by decide +kernel
theorem dX5_found_65 : decode cX5_found 65 = .ok (.iload_n 2, 1) := by decide +kernel
theorem dX5_found_66 : decode cX5_found 66 = .ok (.if_icmp .eq 5, 3) := by decide +kernel
theorem dX5_found_69 : decode cX5_found 69 = .ok (.iconst 0, 1) := by decide +kernel
theorem dX5_found_70 : decode cX5_found 70 = .ok (.ireturn, 1) := by decide +kernel
theorem dX5_found_71 : decode cX5_found 71 = .ok (.aload_n 0, 1) := by decide +kernel
theorem dX5_found_72 : decode cX5_found 72 = .ok (.getfield 26, 3) := by decide +kernel
theorem dX5_found_75 : decode cX5_found 75 = .ok (.iload_n 1, 1) := by decide +kernel
theorem dX5_found_76 : decode cX5_found 76 = .ok (.iconst 1, 1) := by decide +kernel
theorem dX5_found_77 : decode cX5_found 77 = .ok (.iastore, 1) := by decide +kernel
theorem dX5_found_78 : decode cX5_found 78 = .ok (.iconst 1, 1) := by decide +kernel
theorem dX5_found_79 : decode cX5_found 79 = .ok (.ireturn, 1) := by decide +kernel
set_option maxRecDepth 20000 in
theorem ggX5_speed_X5_in : GoodIn wsX5_speed wsX5_in := goodIn_r _ [6] (by decide +kernel) (by decide +kernel)
set_option maxRecDepth 20000 in
theorem gX5_speed_X5_in : GoodIn wsX5_speed (va_wsS RX5 73 yX5_in wsX5_in) := goodIn_app (goodIn_of _ (by decide +kernel)) ggX5_speed_X5_in
theorem dX5_speed_0 : decode cX5_speed 0 = .ok (.aload_n 0, 1) := by decide +kernel
theorem dX5_speed_1 : decode cX5_speed 1 = .ok (.iconst 0, 1) := by decide +kernel
theorem dX5_speed_2 : decode cX5_speed 2 = .ok (.putfield 67, 3) := by decide +kernel
theorem dX5_speed_5 : decode cX5_speed 5 = .ok (.iload_n 1, 1) := by decide +kernel
theorem dX5_speed_6 : decode cX5_speed 6 = .ok (.iconst 1, 1) := by decide +kernel
theorem dX5_speed_7 : decode cX5_speed 7 = .ok (.iconst 5, 1) := by decide +kernel
theorem dX5_speed_8 : decode cX5_speed 8 = .ok (.invokestatic 73, 3) := by decide +kernel
theorem dX5_speed_11 : decode cX5_speed 11 = .ok (.ifCond .ne 6, 3) := by decide +kernel
theorem dX5_speed_14 : decode cX5_speed 14 = .ok (.bipush (-12), 2) := by decide +kernel
theorem dX5_speed_16 : decode cX5_speed 16 = .ok (.ireturn, 1) := by decide +kernel
theorem dX5_speed_17 : decode cX5_speed 17 = .ok (.aload_n 0, 1) := by decide +kernel
theorem dX5_speed_18 : decode cX5_speed 18 = .ok (.getfield 16, 3) := by decide +kernel
theorem dX5_speed_21 : decode cX5_speed 21 = .ok (.istore_n 2, 1) := by decide +kernel
theorem dX5_speed_22 : decode cX5_speed 22 = .ok (.aload_n 0, 1) := by decide +kernel
theorem dX5_speed_23 : decode cX5_speed 23 = .ok (.iload_n 1, 1) := by decide +kernel
theorem dX5_speed_24 : decode cX5_speed 24 = .ok (.putfield 16, 3) := by decide +kernel
theorem dX5_speed_27 : decode cX5_speed 27 = .ok (.iload_n 2, 1) := by decide +kernel
theorem dX5_speed_28 : decode cX5_speed 28 = .ok (.ireturn, 1) := by decide +kernel
set_option maxRecDepth 20000 in
theorem ggX5_share_X5_in : GoodIn wsX5_share wsX5_in := goodIn_r _ [7] (by decide +kernel) (by decide +kernel)
set_option maxRecDepth 20000 in
theorem gX5_share_X5_in : GoodIn wsX5_share (va_wsS RX5 73 yX5_in wsX5_in) := goodIn_app (goodIn_of _ (by decide +kernel)) ggX5_share_X5_in
theorem dX5_share_0 : decode cX5_share 0 = .ok (.aload_n 0, 1) := by decide +kernel
theorem dX5_share_1 : decode cX5_share 1 = .ok (.iconst 0, 1) := by decide +kernel
theorem dX5_share_2 : decode cX5_share 2 = .ok (.putfield 67, 3) := by decide +kernel
theorem dX5_share_5 : decode cX5_share 5 = .ok (.iload_n 1, 1) := by decide +kernel
theorem dX5_share_6 : decode cX5_share 6 = .ok (.iconst 0, 1) := by decide +kernel
theorem dX5_share_7 : decode cX5_share 7 = .ok (.iconst 3, 1) := by decide +kernel
theorem dX5_share_8 : decode cX5_share 8 = .ok (.invokestatic 73, 3) := by decide +kernel
theorem dX5_share_11 : decode cX5_share 11 = .ok (.ifCond .eq 12, 3) := by decide +kernel
theorem dX5_share_14 : decode cX5_share 14 = .ok (.aload_n 0, 1) := by decide +kernel
theorem dX5_share_15 : decode cX5_share 15 = .ok (.getfield 38, 3) := by decide +kernel
theorem dX5_share_18 : decode cX5_share 18 = .ok (.iload_n 1, 1) := by decide +kernel
theorem dX5_share_19 : decode cX5_share 19 = .ok (.laload, 1) := by decide +kernel
theorem dX5_share_20 : decode cX5_share 20 = .ok (.goto 6, 3) := by decide +kernel
theorem dX5_share_23 : decode cX5_share 23 = .ok (.ldc2_w 120, 3) := by decide +kernel
theorem dX5_share_26 : decode cX5_share 26 = .ok (.lreturn, 1) := by decide +kernel
set_option maxRecDepth 20000 in
theorem ggX5_round_X5_isItem : GoodIn wsX5_round wsX5_isItem := goodIn_r _ [7, 8, 9, 10, 6, 11, 12, 13, 14, 15, 16, 17, 18, 19, 20, 21, 22, 23, 24, 25, 26, 27, 28, 29, 30, 31, 32, 33] (by decide +kernel) (by decide +kernel)
set_option maxRecDepth 20000 in
theorem gX5_round_X5_isItem : GoodIn wsX5_round (wsV RX5 117 RX5 yX5_isItem wsX5_isItem) := goodIn_app (goodIn_of _ (by decide +kernel)) ggX5_round_X5_isItem
theorem dX5_round_0 : decode cX5_round 0 = .ok (.aload_n 0, 1) := by decide +kernel
theorem dX5_round_1 : decode cX5_round 1 = .ok (.iconst 0, 1) := by decide +kernel
theorem dX5_round_2 : decode cX5_round 2 = .ok (.putfield 67, 3) := by decide +kernel
theorem dX5_round_5 : decode cX5_round 5 = .ok (.aload_n 0, 1) := by decide +kernel
theorem dX5_round_6 : decode cX5_round 6 = .ok (.iload_n 1, 1) := by decide +kernel
theorem dX5_round_7 : decode cX5_round 7 = .ok (.invokevirtual 117, 3) := by decide +kernel
theorem dX5_round_10 : decode cX5_round 10 = .ok (.ifCond .eq 12, 3) := by decide +kernel
theorem dX5_round_13 : decode cX5_round 13 = .ok (.aload_n 0, 1) := by decide +kernel
theorem dX5_round_14 : decode cX5_round 14 = .ok (.getfield 32, 3) := by decide +kernel
theorem dX5_round_17 : decode cX5_round 17 = .ok (.iload_n 1, 1) := by decide +kernel
theorem dX5_round_18 : decode cX5_round 18 = .ok (.iaload, 1) := by decide +kernel
theorem dX5_round_19 : decode cX5_round 19 = .ok (.goto 5, 3) := by decide +kernel
theorem dX5_round_22 : decode cX5_round 22 = .ok (.bipush (-11), 2) := by decide +kernel
theorem dX5_round_24 : decode cX5_round 24 = .ok (.ireturn, 1) := by decide +kernel
theorem dJx00060_init_a7421_0 : decode cJx00060_init_a7421 0 = .ok (.aload_n 0, 1) := by decide +kernel
theorem dJx00060_init_a7421_1 : decode cJx00060_init_a7421 1 = .ok (.aload_n 1, 1) := by decide +kernel
theorem dJx00060_init_a7421_2 : decode cJx00060_init_a7421 2 = .ok (.invokespecial 7, 3) := by decide +kernel
theorem dJx00060_init_a7421_5 : decode cJx00060_init_a7421 5 = .ok (.return_, 1) := by decide +kernel
theorem dJ9_max_7cf53_0 : decode cJ9_max_7cf53 0 = .ok (.iload_n 0, 1) := by decide +kernel
theorem dJ9_max_7cf53_1 : decode cJ9_max_7cf53 1 = .ok (.iload_n 1, 1) := by decide +kernel
theorem dJ9_max_7cf53_2 : decode cJ9_max_7cf53 2 = .ok (.if_icmp .lt 7, 3) := by decide +kernel
theorem dJ9_max_7cf53_5 : decode cJ9_max_7cf53 5 = .ok (.iload_n 0, 1) := by decide +kernel
theorem dJ9_max_7cf53_6 : decode cJ9_max_7cf53 6 = .ok (.goto 4, 3) := by decide +kernel
theorem dJ9_max_7cf53_9 : decode cJ9_max_7cf53 9 = .ok (.iload_n 1, 1) := by decide +kernel
theorem dJ9_max_7cf53_10 : decode cJ9_max_7cf53 10 = .ok (.ireturn, 1) := by decide +kernel
theorem dJ9_min_7cf53_0 : decode cJ9_min_7cf53 0 = .ok (.iload_n 0, 1) := by decide +kernel
theorem dJ9_min_7cf53_1 : decode cJ9_min_7cf53 1 = .ok (.iload_n 1, 1) := by decide +kernel
theorem dJ9_min_7cf53_2 : decode cJ9_min_7cf53 2 = .ok (.if_icmp .gt 7, 3) := by decide +kernel
theorem dJ9_min_7cf53_5 : decode cJ9_min_7cf53 5 = .ok (.iload_n 0, 1) := by decide +kernel
theorem dJ9_min_7cf53_6 : decode cJ9_min_7cf53 6 = .ok (.goto 4, 3) := by decide +kernel
theorem dJ9_min_7cf53_9 : decode cJ9_min_7cf53 9 = .ok (.iload_n 1, 1) := by decide +kernel
theorem dJ9_min_7cf53_10 : decode cJ9_min_7cf53 10 = .ok (.ireturn, 1) := by decide +kernel
theorem dL_cell_0 : decode cL_cell 0 = .ok (.iload_n 1, 1) := by decide +kernel
theorem dL_cell_1 : decode cL_cell 1 = .ok (.aload_n 0, 1) := by decide +kernel
theorem dL_cell_2 : decode cL_cell 2 = .ok (.arraylength, 1) := by decide +kernel
theorem dL_cell_3 : decode cL_cell 3 = .ok (.if_icmp .ge 9, 3) := by decide +kernel
theorem dL_cell_6 : decode cL_cell 6 = .ok (.aload_n 0, 1) := by decide +kernel
theorem dL_cell_7 : decode cL_cell 7 = .ok (.iload_n 1, 1) := by decide +kernel
theorem dL_cell_8 : decode cL_cell 8 = .ok (.iaload, 1) := by decide +kernel
theorem dL_cell_9 : decode cL_cell 9 = .ok (.goto 4, 3) := by decide +kernel
theorem dL_cell_12 : decode cL_cell 12 = .ok (.iconst 0, 1) := by decide +kernel
theorem dL_cell_13 : decode cL_cell 13 = .ok (.ireturn, 1) := by decide +kernel
set_option maxRecDepth 20000 in
theorem ggL_tray_X4_tray : GoodIn wsL_tray wsX4_tray := goodIn_r _ [5, 6, 7, 8, 9, 10, 11, 12, 13, 4, 14, 15, 16, 17, 18, 19, 20, 21, 22, 23, 24, 25, 26, 27, 28, 29, 30, 31, 32, 33, 34, 35, 36, 37, 38, 39, 40, 41, 42] (by decide +kernel) (by decide +kernel)
set_option maxRecDepth 20000 in
theorem gL_tray_X4_tray : GoodIn wsL_tray (wsV RL 7 RX4 yX4_tray wsX4_tray) := goodIn_app (goodIn_of _ (by decide +kernel)) ggL_tray_X4_tray
theorem dL_tray_0 : decode cL_tray 0 = .ok (.aload_n 2, 1) := by decide +kernel
theorem dL_tray_1 : decode cL_tray 1 = .ok (.iconst 0, 1) := by decide +kernel
theorem dL_tray_2 : decode cL_tray 2 = .ok (.aload_n 0, 1) := by decide +kernel
theorem dL_tray_3 : decode cL_tray 3 = .ok (.iload_n 1, 1) := by decide +kernel
theorem dL_tray_4 : decode cL_tray 4 = .ok (.invokevirtual 7, 3) := by decide +kernel
theorem dL_tray_7 : decode cL_tray 7 = .ok (.i2l, 1) := by decide +kernel
theorem dL_tray_8 : decode cL_tray 8 = .ok (.lastore, 1) := by decide +kernel
theorem dL_tray_9 : decode cL_tray 9 = .ok (.goto 6, 3) := by decide +kernel
theorem dL_tray_12 : decode cL_tray 12 = .ok (.astore_n 3, 1) := by decide +kernel
theorem dL_tray_13 : decode cL_tray 13 = .ok (.iconst 1, 1) := by decide +kernel
theorem dL_tray_14 : decode cL_tray 14 = .ok (.ireturn, 1) := by decide +kernel
theorem dL_tray_15 : decode cL_tray 15 = .ok (.iconst 0, 1) := by decide +kernel
theorem dL_tray_16 : decode cL_tray 16 = .ok (.ireturn, 1) := by decide +kernel
set_option maxRecDepth 20000 in
theorem ggL_found_X4_found : GoodIn wsL_found wsX4_found := goodIn_r _ [5, 6, 7, 8, 9, 10, 11, 12, 13, 14, 15, 4, 16, 17, 18, 19, 20, 21, 22, 23, 24, 25, 26, 27, 28, 29, 30, 31, 32, 33, 34, 35, 36, 37, 38, 39, 40, 41, 42, 43, 44, 45, 46, 47, 48, 49, 50] (by decide +kernel) (by decide +kernel)
set_option maxRecDepth 20000 in
theorem gL_found_X4_found : GoodIn wsL_found (wsV RL 15 RX4 yX4_found wsX4_found) := goodIn_app (goodIn_of _ (by decide +kernel)) ggL_found_X4_found
theorem dL_found_0 : decode cL_found 0 = .ok (.aload_n 3, 1) := by decide +kernel
theorem dL_found_1 : decode cL_found 1 = .ok (.iconst 0, 1) := by decide +kernel
theorem dL_found_2 : decode cL_found 2 = .ok (.aload_n 0, 1) := by decide +kernel
theorem dL_found_3 : decode cL_found 3 = .ok (.iload_n 1, 1) := by decide +kernel
theorem dL_found_4 : decode cL_found 4 = .ok (.iload_n 2, 1) := by decide +kernel
theorem dL_found_5 : decode cL_found 5 = .ok (.invokevirtual 15, 3) := by decide +kernel
theorem dL_found_8 : decode cL_found 8 = .ok (.i2l, 1) := by decide +kernel
theorem dL_found_9 : decode cL_found 9 = .ok (.lastore, 1) := by decide +kernel
theorem dL_found_10 : decode cL_found 10 = .ok (.goto 7, 3) := by decide +kernel
theorem dL_found_13 : decode cL_found 13 = .ok (.astore 4, 2) := by decide +kernel
theorem dL_found_15 : decode cL_found 15 = .ok (.iconst 1, 1) := by decide +kernel
theorem dL_found_16 : decode cL_found 16 = .ok (.ireturn, 1) := by decide +kernel
theorem dL_found_17 : decode cL_found 17 = .ok (.iconst 0, 1) := by decide +kernel
theorem dL_found_18 : decode cL_found 18 = .ok (.ireturn, 1) := by decide +kernel
set_option maxRecDepth 20000 in
theorem ggL_law_L_cell : GoodIn wsL_law wsL_cell := goodIn_r _ [10] (by decide +kernel) (by decide +kernel)
set_option maxRecDepth 20000 in
theorem gL_law_L_cell : GoodIn wsL_law (va_wsS RL 19 yL_cell wsL_cell) := goodIn_app (goodIn_of _ (by decide +kernel)) ggL_law_L_cell
set_option maxRecDepth 20000 in
theorem ggL_law_X4_init : GoodIn wsL_law wsX4_init := goodIn_r _ [13, 14, 15, 16, 17, 18, 19, 20, 21, 22, 23, 24, 25, 26, 27, 28, 29, 30, 31, 32, 33, 2, 34, 35, 36, 37, 38, 39, 40, 41, 42, 43, 44, 45, 46, 47, 48, 49, 50, 51, 52, 53, 54, 347, 348, 349, 350, 351, 352, 353, 354, 355, 356, 357, 358, 359, 382, 383, 384, 385, 386, 387, 388, 389, 390] (by decide +kernel) (by decide +kernel)
set_option maxRecDepth 20000 in
theorem gL_law_X4_init : GoodIn wsL_law (wsX4_init) := ggL_law_X4_init
set_option maxRecDepth 20000 in
theorem ggL_law_X5_init : GoodIn wsL_law wsX5_init := goodIn_r _ [57, 58, 15, 16, 59, 60, 61, 62, 63, 64, 65, 66, 67, 68, 6, 69, 70, 71, 72, 73, 74, 75, 76, 77, 78, 360, 361, 362, 363, 364, 365, 366, 367, 368, 369, 370, 371, 372, 373, 374, 375, 376, 377, 378, 379, 380, 381] (by decide +kernel) (by decide +kernel)
set_option maxRecDepth 20000 in
theorem gL_law_X5_init : GoodIn wsL_law (wsX5_init) := ggL_law_X5_init
set_option maxRecDepth 20000 in
theorem ggL_law_X4_induct : GoodIn wsL_law wsX4_induct := goodIn_r _ [82, 83, 25, 19, 84, 85, 21, 86, 87, 88, 2, 89, 90, 91, 92, 93, 94, 95, 27, 96, 97, 98, 99, 100, 101, 15, 16, 102, 103, 104, 105, 106, 107, 108, 109, 110, 48, 111, 347, 348, 349, 350, 351, 352, 353, 354, 355, 356, 357, 358, 359, 391, 392, 393, 394, 395, 396, 397, 398, 382, 383, 384, 385, 386] (by decide +kernel) (by decide +kernel)
set_option maxRecDepth 20000 in
theorem gL_law_X4_induct : GoodIn wsL_law (wsV RL 31 RX4 yX4_induct wsX4_induct) := goodIn_app (goodIn_of _ (by decide +kernel)) ggL_law_X4_induct
set_option maxRecDepth 20000 in
theorem ggL_law_X5_induct : GoodIn wsL_law wsX5_induct := goodIn_r _ [115, 116, 117, 68, 63, 64, 118, 119, 5, 120, 121, 122, 123, 124, 65, 360, 361, 362, 363, 364, 365, 366, 367, 368, 369, 370, 371, 372, 373, 374, 375, 376, 377, 378, 379, 380, 381] (by decide +kernel) (by decide +kernel)
set_option maxRecDepth 20000 in
theorem gL_law_X5_induct : GoodIn wsL_law (wsV RL 35 RX5 yX5_induct wsX5_induct) := goodIn_app (goodIn_of _ (by decide +kernel)) ggL_law_X5_induct
set_option maxRecDepth 20000 in
theorem ggL_law_X4_step : GoodIn wsL_law wsX4_step := goodIn_r _ [128, 129, 130, 131, 132, 2, 133, 23, 134, 17, 135, 136, 137, 138, 139, 140, 29, 141, 20, 142, 143, 144, 145, 146, 147, 148, 149, 150, 151, 152, 153, 154, 18, 155, 156, 157, 31, 158, 54, 159, 160, 161, 162, 163, 164, 165, 166, 167, 168, 22, 169, 170, 171, 172, 173, 174, 175, 176, 177, 178, 179, 180, 181, 25, 182, 183, 184, 185, 186, 187, 188, 189, 190, 191, 192, 193, 194, 195, 27, 196, 97, 48, 197, 198, 199, 200, 201, 202, 203, 204, 347, 348, 349, 350, 351, 352, 353, 354, 355, 356, 357, 358, 359, 387, 388, 389, 390, 391, 392, 393, 394, 395, 396, 397, 398, 382, 383, 384, 385, 386] (by decide +kernel) (by decide +kernel)
set_option maxRecDepth 20000 in
theorem gL_law_X4_step : GoodIn wsL_law (wsV RL 36 RX4 yX4_step wsX4_step) := goodIn_app (goodIn_of _ (by decide +kernel)) ggL_law_X4_step
set_option maxRecDepth 20000 in
theorem ggL_law_X5_step : GoodIn wsL_law wsX5_step := goodIn_r _ [208, 116, 209, 62, 210, 118, 119, 5, 120, 211, 212, 213, 214, 60, 77, 61, 215, 216, 217, 218, 66, 65, 64, 67, 78, 219, 220, 221, 222, 72, 70, 223, 224, 225, 226, 63, 73, 74, 75, 227, 228, 229, 230, 231, 232, 233, 234, 76, 69, 235, 236, 237, 238, 239, 240, 241, 242, 117, 68, 360, 361, 362, 363, 364, 365, 366, 367, 368, 369, 370, 371, 372, 373, 374, 375, 376, 377, 378, 379, 380, 381] (by decide +kernel) (by decide +kernel)
set_option maxRecDepth 20000 in
theorem gL_law_X5_step : GoodIn wsL_law (wsV RL 39 RX5 yX5_step wsX5_step) := goodIn_app (goodIn_of _ (by decide +kernel)) ggL_law_X5_step
set_option maxRecDepth 20000 in
theorem ggL_law_X4_out : GoodIn wsL_law wsX4_out := goodIn_r _ [246, 129, 22, 86, 167, 168, 154, 347, 348, 349, 350, 351, 352, 353, 354, 355, 356, 357, 358, 359, 391, 392, 393, 394, 395, 396, 397, 398] (by decide +kernel) (by decide +kernel)
set_option maxRecDepth 20000 in
theorem gL_law_X4_out : GoodIn wsL_law (wsV RL 40 RX4 yX4_out wsX4_out) := goodIn_app (goodIn_of _ (by decide +kernel)) ggL_law_X4_out
set_option maxRecDepth 20000 in
theorem ggL_law_X5_out : GoodIn wsL_law wsX5_out := goodIn_r _ [250, 116, 209, 73, 74, 75, 67, 118, 119, 5, 120, 360, 361, 362, 363, 364, 365, 366, 367, 368, 369, 370, 371, 372, 373, 374, 375, 376, 377, 378, 379, 380, 381] (by decide +kernel) (by decide +kernel)
set_option maxRecDepth 20000 in
theorem gL_law_X5_out : GoodIn wsL_law (wsV RL 43 RX5 yX5_out wsX5_out) := goodIn_app (goodIn_of _ (by decide +kernel)) ggL_law_X5_out
set_option maxRecDepth 20000 in
theorem ggL_law_L_tray : GoodIn wsL_law wsL_tray := goodIn_r _ [253, 254, 255, 256, 2, 257, 258, 259, 260, 20, 86, 261, 262, 263, 264, 17, 399, 400, 401, 402, 403, 404, 347, 348, 349, 350, 351, 352, 353, 354, 355, 356, 357, 358, 359, 391, 392, 393, 394, 395, 396, 397, 398] (by decide +kernel) (by decide +kernel)
set_option maxRecDepth 20000 in
theorem gL_law_L_tray : GoodIn wsL_law (va_wsS RL 44 yL_tray wsL_tray) := goodIn_app (goodIn_of _ (by decide +kernel)) ggL_law_L_tray
set_option maxRecDepth 20000 in
theorem ggL_law_X5_tray : GoodIn wsL_law wsX5_tray := goodIn_r _ [268, 77, 116, 118, 119, 5, 120, 269, 270, 271, 272, 60, 61, 360, 361, 362, 363, 364, 365, 366, 367, 368, 369, 370, 371, 372, 373, 374, 375, 376, 377, 378, 379, 380, 381] (by decide +kernel) (by decide +kernel)
set_option maxRecDepth 20000 in
theorem gL_law_X5_tray : GoodIn wsL_law (wsV RL 47 RX5 yX5_tray wsX5_tray) := goodIn_app (goodIn_of _ (by decide +kernel)) ggL_law_X5_tray
set_option maxRecDepth 20000 in
theorem ggL_law_X5_thrown : GoodIn wsL_law wsX5_thrown := goodIn_r _ [276, 116, 360, 361, 362, 363, 364, 365, 366, 367, 368, 369, 370, 371, 372, 373, 374, 375, 376, 377, 378, 379, 380, 381] (by decide +kernel) (by decide +kernel)
set_option maxRecDepth 20000 in
theorem gL_law_X5_thrown : GoodIn wsL_law (wsV RL 48 RX5 yX5_thrown wsX5_thrown) := goodIn_app (goodIn_of _ (by decide +kernel)) ggL_law_X5_thrown
set_option maxRecDepth 20000 in
theorem ggL_law_X4_full : GoodIn wsL_law wsX4_full := goodIn_r _ [280, 29, 165, 90, 91, 2, 92, 281, 282, 283, 31, 284, 159, 285, 286, 287, 288, 160, 347, 348, 349, 350, 351, 352, 353, 354, 355, 356, 357, 358, 359, 387, 388, 389, 390] (by decide +kernel) (by decide +kernel)
set_option maxRecDepth 20000 in
theorem gL_law_X4_full : GoodIn wsL_law (wsV RL 52 RX4 yX4_full wsX4_full) := goodIn_app (goodIn_of _ (by decide +kernel)) ggL_law_X4_full
set_option maxRecDepth 20000 in
theorem ggL_law_X5_full : GoodIn wsL_law wsX5_full := goodIn_r _ [292, 116, 70, 72, 118, 119, 5, 120, 360, 361, 362, 363, 364, 365, 366, 367, 368, 369, 370, 371, 372, 373, 374, 375, 376, 377, 378, 379, 380, 381] (by decide +kernel) (by decide +kernel)
set_option maxRecDepth 20000 in
theorem gL_law_X5_full : GoodIn wsL_law (wsV RL 56 RX5 yX5_full wsX5_full) := goodIn_app (goodIn_of _ (by decide +kernel)) ggL_law_X5_full
set_option maxRecDepth 20000 in
theorem ggL_law_X4_missed : GoodIn wsL_law wsX4_missed := goodIn_r _ [296, 143, 144, 297, 142, 298, 299, 300, 2, 301, 83, 21, 391, 392, 393, 394, 395, 396, 397, 398, 347, 348, 349, 350, 351, 352, 353, 354, 355, 356, 357, 358, 359] (by decide +kernel) (by decide +kernel)
set_option maxRecDepth 20000 in
theorem gL_law_X4_missed : GoodIn wsL_law (wsV RL 57 RX4 yX4_missed wsX4_missed) := goodIn_app (goodIn_of _ (by decide +kernel)) ggL_law_X4_missed
set_option maxRecDepth 20000 in
theorem ggL_law_X5_missed : GoodIn wsL_law wsX5_missed := goodIn_r _ [305, 116, 65, 66, 306, 307, 308, 5, 309, 117, 118, 119, 120, 360, 361, 362, 363, 364, 365, 366, 367, 368, 369, 370, 371, 372, 373, 374, 375, 376, 377, 378, 379, 380, 381] (by decide +kernel) (by decide +kernel)
set_option maxRecDepth 20000 in
theorem gL_law_X5_missed : GoodIn wsL_law (wsV RL 60 RX5 yX5_missed wsX5_missed) := goodIn_app (goodIn_of _ (by decide +kernel)) ggL_law_X5_missed
set_option maxRecDepth 20000 in
theorem ggL_law_L_found : GoodIn wsL_law wsL_found := goodIn_r _ [312, 313, 314, 315, 2, 316, 143, 297, 258, 259, 260, 142, 144, 298, 299, 300, 301, 83, 21, 261, 262, 263, 264, 17, 391, 392, 393, 394, 395, 396, 397, 398, 399, 400, 401, 402, 403, 404, 347, 348, 349, 350, 351, 352, 353, 354, 355, 356, 357, 358, 359] (by decide +kernel) (by decide +kernel)
set_option maxRecDepth 20000 in
theorem gL_law_L_found : GoodIn wsL_law (va_wsS RL 61 yL_found wsL_found) := goodIn_app (goodIn_of _ (by decide +kernel)) ggL_law_L_found
set_option maxRecDepth 20000 in
theorem ggL_law_X5_found : GoodIn wsL_law wsX5_found := goodIn_r _ [320, 116, 65, 77, 66, 306, 307, 308, 5, 309, 117, 118, 119, 120, 360, 361, 362, 363, 364, 365, 366, 367, 368, 369, 370, 371, 372, 373, 374, 375, 376, 377, 378, 379, 380, 381] (by decide +kernel) (by decide +kernel)
set_option maxRecDepth 20000 in
theorem gL_law_X5_found : GoodIn wsL_law (wsV RL 64 RX5 yX5_found wsX5_found) := goodIn_app (goodIn_of _ (by decide +kernel)) ggL_law_X5_found
set_option maxRecDepth 20000 in
theorem ggL_law_X4_speed : GoodIn wsL_law wsX4_speed := goodIn_r _ [324, 23, 347, 348, 349, 350, 351, 352, 353, 354, 355, 356, 357, 358, 359] (by decide +kernel) (by decide +kernel)
set_option maxRecDepth 20000 in
theorem gL_law_X4_speed : GoodIn wsL_law (wsV RL 65 RX4 yX4_speed wsX4_speed) := goodIn_app (goodIn_of _ (by decide +kernel)) ggL_law_X4_speed
set_option maxRecDepth 20000 in
theorem ggL_law_X5_speed : GoodIn wsL_law wsX5_speed := goodIn_r _ [328, 116, 62, 118, 119, 5, 120, 360, 361, 362, 363, 364, 365, 366, 367, 368, 369, 370, 371, 372, 373, 374, 375, 376, 377, 378, 379, 380, 381] (by decide +kernel) (by decide +kernel)
set_option maxRecDepth 20000 in
theorem gL_law_X5_speed : GoodIn wsL_law (wsV RL 68 RX5 yX5_speed wsX5_speed) := goodIn_app (goodIn_of _ (by decide +kernel)) ggL_law_X5_speed
set_option maxRecDepth 20000 in
theorem ggL_law_X4_share : GoodIn wsL_law wsX4_share := goodIn_r _ [332, 25, 187, 333, 87, 88, 2, 89, 347, 348, 349, 350, 351, 352, 353, 354, 355, 356, 357, 358, 359, 382, 383, 384, 385, 386] (by decide +kernel) (by decide +kernel)
set_option maxRecDepth 20000 in
theorem gL_law_X4_share : GoodIn wsL_law (wsV RL 69 RX4 yX4_share wsX4_share) := goodIn_app (goodIn_of _ (by decide +kernel)) ggL_law_X4_share
set_option maxRecDepth 20000 in
theorem ggL_law_X5_share : GoodIn wsL_law wsX5_share := goodIn_r _ [337, 116, 69, 338, 118, 119, 5, 120, 360, 361, 362, 363, 364, 365, 366, 367, 368, 369, 370, 371, 372, 373, 374, 375, 376, 377, 378, 379, 380, 381] (by decide +kernel) (by decide +kernel)
set_option maxRecDepth 20000 in
theorem gL_law_X5_share : GoodIn wsL_law (wsV RL 73 RX5 yX5_share wsX5_share) := goodIn_app (goodIn_of _ (by decide +kernel)) ggL_law_X5_share
set_option maxRecDepth 20000 in
theorem ggL_law_X4_round : GoodIn wsL_law wsX4_round := goodIn_r _ [342, 154, 298, 299, 300, 2, 301, 83, 21, 391, 392, 393, 394, 395, 396, 397, 398, 347, 348, 349, 350, 351, 352, 353, 354, 355, 356, 357, 358, 359] (by decide +kernel) (by decide +kernel)
set_option maxRecDepth 20000 in
theorem gL_law_X4_round : GoodIn wsL_law (wsV RL 74 RX4 yX4_round wsX4_round) := goodIn_app (goodIn_of _ (by decide +kernel)) ggL_law_X4_round
set_option maxRecDepth 20000 in
theorem ggL_law_X5_round : GoodIn wsL_law wsX5_round := goodIn_r _ [346, 116, 67, 306, 307, 308, 5, 309, 117, 118, 119, 120, 360, 361, 362, 363, 364, 365, 366, 367, 368, 369, 370, 371, 372, 373, 374, 375, 376, 377, 378, 379, 380, 381] (by decide +kernel) (by decide +kernel)
set_option maxRecDepth 20000 in
theorem gL_law_X5_round : GoodIn wsL_law (wsV RL 77 RX5 yX5_round wsX5_round) := goodIn_app (goodIn_of _ (by decide +kernel)) ggL_law_X5_round
theorem dL_law_0 : decode cL_law 0 = .ok (.new 8, 3) := by decide +kernel
theorem dL_law_3 : decode cL_law 3 = .ok (.dup, 1) := by decide +kernel
theorem dL_law_4 : decode cL_law 4 = .ok (.aload_n 0, 1) := by decide +kernel
theorem dL_law_5 : decode cL_law 5 = .ok (.iconst 0, 1) := by decide +kernel
theorem dL_law_6 : decode cL_law 6 = .ok (.invokestatic 19, 3) := by decide +kernel
theorem dL_law_9 : decode cL_law 9 = .ok (.aload_n 0, 1) := by decide +kernel
theorem dL_law_10 : decode cL_law 10 = .ok (.iconst 1, 1) := by decide +kernel
theorem dL_law_11 : decode cL_law 11 = .ok (.invokestatic 19, 3) := by decide +kernel
theorem dL_law_14 : decode cL_law 14 = .ok (.invokespecial 25, 3) := by decide +kernel
theorem dL_law_17 : decode cL_law 17 = .ok (.astore_n 1, 1) := by decide +kernel
theorem dL_law_18 : decode cL_law 18 = .ok (.new 28, 3) := by decide +kernel
theorem dL_law_21 : decode cL_law 21 = .ok (.dup, 1) := by decide +kernel
theorem dL_law_22 : decode cL_law 22 = .ok (.aload_n 0, 1) := by decide +kernel
theorem dL_law_23 : decode cL_law 23 = .ok (.iconst 0, 1) := by decide +kernel
theorem dL_law_24 : decode cL_law 24 = .ok (.invokestatic 19, 3) := by decide +kernel
theorem dL_law_27 : decode cL_law 27 = .ok (.aload_n 0, 1) := by decide +kernel
theorem dL_law_28 : decode cL_law 28 = .ok (.iconst 1, 1) := by decide +kernel
theorem dL_law_29 : decode cL_law 29 = .ok (.invokestatic 19, 3) := by decide +kernel
theorem dL_law_32 : decode cL_law 32 = .ok (.invokespecial 30, 3) := by decide +kernel
theorem dL_law_35 : decode cL_law 35 = .ok (.astore_n 2, 1) := by decide +kernel
theorem dL_law_36 : decode cL_law 36 = .ok (.iconst 1, 1) := by decide +kernel
theorem dL_law_37 : decode cL_law 37 = .ok (.newarray .long, 2) := by decide +kernel
theorem dL_law_39 : decode cL_law 39 = .ok (.astore_n 3, 1) := by decide +kernel
theorem dL_law_40 : decode cL_law 40 = .ok (.iconst 2, 1) := by decide +kernel
theorem dL_law_41 : decode cL_law 41 = .ok (.istore 4, 2) := by decide +kernel
theorem dL_law_43 : decode cL_law 43 = .ok (.iload 4, 2) := by decide +kernel
theorem dL_law_45 : decode cL_law 45 = .ok (.aload_n 0, 1) := by decide +kernel
theorem dL_law_46 : decode cL_law 46 = .ok (.arraylength, 1) := by decide +kernel
theorem dL_law_47 : decode cL_law 47 = .ok (.iconst 4, 1) := by decide +kernel
theorem dL_law_48 : decode cL_law 48 = .ok (.isub, 1) := by decide +kernel
theorem dL_law_49 : decode cL_law 49 = .ok (.if_icmp .gt 458, 3) := by decide +kernel
theorem dL_law_52 : decode cL_law 52 = .ok (.aload_n 0, 1) := by decide +kernel
theorem dL_law_53 : decode cL_law 53 = .ok (.iload 4, 2) := by decide +kernel
theorem dL_law_55 : decode cL_law 55 = .ok (.iaload, 1) := by decide +kernel
theorem dL_law_56 : decode cL_law 56 = .ok (.bipush 15, 2) := by decide +kernel
theorem dL_law_58 : decode cL_law 58 = .ok (.iand, 1) := by decide +kernel
theorem dL_law_59 : decode cL_law 59 = .ok (.tableswitch 442 0 9 #[53, 102, 127, 164, 220, 273, 298, 366, 391, 417], 53) := by decide +kernel
theorem dL_law_112 : decode cL_law 112 = .ok (.aload_n 1, 1) := by decide +kernel
theorem dL_law_113 : decode cL_law 113 = .ok (.aload_n 0, 1) := by decide +kernel
theorem dL_law_114 : decode cL_law 114 = .ok (.iload 4, 2) := by decide +kernel
theorem dL_law_116 : decode cL_law 116 = .ok (.iconst 1, 1) := by decide +kernel
theorem dL_law_117 : decode cL_law 117 = .ok (.iadd, 1) := by decide +kernel
theorem dL_law_118 : decode cL_law 118 = .ok (.iaload, 1) := by decide +kernel
theorem dL_law_119 : decode cL_law 119 = .ok (.aload_n 0, 1) := by decide +kernel
theorem dL_law_120 : decode cL_law 120 = .ok (.iload 4, 2) := by decide +kernel
theorem dL_law_122 : decode cL_law 122 = .ok (.iconst 2, 1) := by decide +kernel
theorem dL_law_123 : decode cL_law 123 = .ok (.iadd, 1) := by decide +kernel
theorem dL_law_124 : decode cL_law 124 = .ok (.iaload, 1) := by decide +kernel
theorem dL_law_125 : decode cL_law 125 = .ok (.aload_n 0, 1) := by decide +kernel
theorem dL_law_126 : decode cL_law 126 = .ok (.iload 4, 2) := by decide +kernel
theorem dL_law_128 : decode cL_law 128 = .ok (.iconst 3, 1) := by decide +kernel
theorem dL_law_129 : decode cL_law 129 = .ok (.iadd, 1) := by decide +kernel
theorem dL_law_130 : decode cL_law 130 = .ok (.iaload, 1) := by decide +kernel
theorem dL_law_131 : decode cL_law 131 = .ok (.invokevirtual 31, 3) := by decide +kernel
theorem dL_law_134 : decode cL_law 134 = .ok (.aload_n 2, 1) := by decide +kernel
theorem dL_law_135 : decode cL_law 135 = .ok (.aload_n 0, 1) := by decide +kernel
theorem dL_law_136 : decode cL_law 136 = .ok (.iload 4, 2) := by decide +kernel
theorem dL_law_138 : decode cL_law 138 = .ok (.iconst 1, 1) := by decide +kernel
theorem dL_law_139 : decode cL_law 139 = .ok (.iadd, 1) := by decide +kernel
theorem dL_law_140 : decode cL_law 140 = .ok (.iaload, 1) := by decide +kernel
theorem dL_law_141 : decode cL_law 141 = .ok (.aload_n 0, 1) := by decide +kernel
theorem dL_law_142 : decode cL_law 142 = .ok (.iload 4, 2) := by decide +kernel
theorem dL_law_144 : decode cL_law 144 = .ok (.iconst 2, 1) := by decide +kernel
theorem dL_law_145 : decode cL_law 145 = .ok (.iadd, 1) := by decide +kernel
theorem dL_law_146 : decode cL_law 146 = .ok (.iaload, 1) := by decide +kernel
theorem dL_law_147 : decode cL_law 147 = .ok (.aload_n 0, 1) := by decide +kernel
theorem dL_law_148 : decode cL_law 148 = .ok (.iload 4, 2) := by decide +kernel
theorem dL_law_150 : decode cL_law 150 = .ok (.iconst 3, 1) := by decide +kernel
theorem dL_law_151 : decode cL_law 151 = .ok (.iadd, 1) := by decide +kernel
theorem dL_law_152 : decode cL_law 152 = .ok (.iaload, 1) := by decide +kernel
theorem dL_law_153 : decode cL_law 153 = .ok (.invokevirtual 35, 3) := by decide +kernel
theorem dL_law_156 : decode cL_law 156 = .ok (.if_icmp .eq 345, 3) := by decide +kernel
theorem dL_law_159 : decode cL_law 159 = .ok (.iconst 0, 1) := by decide +kernel
theorem dL_law_160 : decode cL_law 160 = .ok (.ireturn, 1) := by decide +kernel
theorem dL_law_161 : decode cL_law 161 = .ok (.aload_n 1, 1) := by decide +kernel
theorem dL_law_162 : decode cL_law 162 = .ok (.aload_n 0, 1) := by decide +kernel
theorem dL_law_163 : decode cL_law 163 = .ok (.iload 4, 2) := by decide +kernel
theorem dL_law_165 : decode cL_law 165 = .ok (.iconst 1, 1) := by decide +kernel
theorem dL_law_166 : decode cL_law 166 = .ok (.iadd, 1) := by decide +kernel
theorem dL_law_167 : decode cL_law 167 = .ok (.iaload, 1) := by decide +kernel
theorem dL_law_168 : decode cL_law 168 = .ok (.invokevirtual 36, 3) := by decide +kernel
theorem dL_law_171 : decode cL_law 171 = .ok (.aload_n 2, 1) := by decide +kernel
theorem dL_law_172 : decode cL_law 172 = .ok (.aload_n 0, 1) := by decide +kernel
theorem dL_law_173 : decode cL_law 173 = .ok (.iload 4, 2) := by decide +kernel
theorem dL_law_175 : decode cL_law 175 = .ok (.iconst 1, 1) := by decide +kernel
theorem dL_law_176 : decode cL_law 176 = .ok (.iadd, 1) := by decide +kernel
theorem dL_law_177 : decode cL_law 177 = .ok (.iaload, 1) := by decide +kernel
theorem dL_law_178 : decode cL_law 178 = .ok (.invokevirtual 39, 3) := by decide +kernel
theorem dL_law_181 : decode cL_law 181 = .ok (.if_icmp .eq 320, 3) := by decide +kernel
theorem dL_law_184 : decode cL_law 184 = .ok (.iconst 0, 1) := by decide +kernel
theorem dL_law_185 : decode cL_law 185 = .ok (.ireturn, 1) := by decide +kernel
theorem dL_law_186 : decode cL_law 186 = .ok (.aload_n 1, 1) := by decide +kernel
theorem dL_law_187 : decode cL_law 187 = .ok (.aload_n 0, 1) := by decide +kernel
theorem dL_law_188 : decode cL_law 188 = .ok (.iload 4, 2) := by decide +kernel
theorem dL_law_190 : decode cL_law 190 = .ok (.iconst 1, 1) := by decide +kernel
theorem dL_law_191 : decode cL_law 191 = .ok (.iadd, 1) := by decide +kernel
theorem dL_law_192 : decode cL_law 192 = .ok (.iaload, 1) := by decide +kernel
theorem dL_law_193 : decode cL_law 193 = .ok (.aload_n 0, 1) := by decide +kernel
theorem dL_law_194 : decode cL_law 194 = .ok (.iload 4, 2) := by decide +kernel
theorem dL_law_196 : decode cL_law 196 = .ok (.iconst 2, 1) := by decide +kernel
theorem dL_law_197 : decode cL_law 197 = .ok (.iadd, 1) := by decide +kernel
theorem dL_law_198 : decode cL_law 198 = .ok (.iaload, 1) := by decide +kernel
theorem dL_law_199 : decode cL_law 199 = .ok (.invokevirtual 40, 3) := by decide +kernel
theorem dL_law_202 : decode cL_law 202 = .ok (.aload_n 2, 1) := by decide +kernel
theorem dL_law_203 : decode cL_law 203 = .ok (.aload_n 0, 1) := by decide +kernel
theorem dL_law_204 : decode cL_law 204 = .ok (.iload 4, 2) := by decide +kernel
theorem dL_law_206 : decode cL_law 206 = .ok (.iconst 1, 1) := by decide +kernel
theorem dL_law_207 : decode cL_law 207 = .ok (.iadd, 1) := by decide +kernel
theorem dL_law_208 : decode cL_law 208 = .ok (.iaload, 1) := by decide +kernel
theorem dL_law_209 : decode cL_law 209 = .ok (.aload_n 0, 1) := by decide +kernel
theorem dL_law_210 : decode cL_law 210 = .ok (.iload 4, 2) := by decide +kernel
theorem dL_law_212 : decode cL_law 212 = .ok (.iconst 2, 1) := by decide +kernel
theorem dL_law_213 : decode cL_law 213 = .ok (.iadd, 1) := by decide +kernel
theorem dL_law_214 : decode cL_law 214 = .ok (.iaload, 1) := by decide +kernel
theorem dL_law_215 : decode cL_law 215 = .ok (.invokevirtual 43, 3) := by decide +kernel
theorem dL_law_218 : decode cL_law 218 = .ok (.if_icmp .eq 283, 3) := by decide +kernel
theorem dL_law_221 : decode cL_law 221 = .ok (.iconst 0, 1) := by decide +kernel
theorem dL_law_222 : decode cL_law 222 = .ok (.ireturn, 1) := by decide +kernel
theorem dL_law_223 : decode cL_law 223 = .ok (.aload_n 1, 1) := by decide +kernel
theorem dL_law_224 : decode cL_law 224 = .ok (.aload_n 0, 1) := by decide +kernel
theorem dL_law_225 : decode cL_law 225 = .ok (.iload 4, 2) := by decide +kernel
theorem dL_law_227 : decode cL_law 227 = .ok (.iconst 1, 1) := by decide +kernel
theorem dL_law_228 : decode cL_law 228 = .ok (.iadd, 1) := by decide +kernel
theorem dL_law_229 : decode cL_law 229 = .ok (.iaload, 1) := by decide +kernel
theorem dL_law_230 : decode cL_law 230 = .ok (.aload_n 3, 1) := by decide +kernel
theorem dL_law_231 : decode cL_law 231 = .ok (.invokestatic 44, 3) := by decide +kernel
theorem dL_law_234 : decode cL_law 234 = .ok (.istore 5, 2) := by decide +kernel
theorem dL_law_236 : decode cL_law 236 = .ok (.aload_n 2, 1) := by decide +kernel
theorem dL_law_237 : decode cL_law 237 = .ok (.aload_n 0, 1) := by decide +kernel
theorem dL_law_238 : decode cL_law 238 = .ok (.iload 4, 2) := by decide +kernel
theorem dL_law_240 : decode cL_law 240 = .ok (.iconst 1, 1) := by decide +kernel
theorem dL_law_241 : decode cL_law 241 = .ok (.iadd, 1) := by decide +kernel
theorem dL_law_242 : decode cL_law 242 = .ok (.iaload, 1) := by decide +kernel
theorem dL_law_243 : decode cL_law 243 = .ok (.invokevirtual 47, 3) := by decide +kernel
theorem dL_law_246 : decode cL_law 246 = .ok (.istore 6, 2) := by decide +kernel
theorem dL_law_248 : decode cL_law 248 = .ok (.aload_n 2, 1) := by decide +kernel
theorem dL_law_249 : decode cL_law 249 = .ok (.invokevirtual 48, 3) := by decide +kernel
theorem dL_law_252 : decode cL_law 252 = .ok (.iload 5, 2) := by decide +kernel
theorem dL_law_254 : decode cL_law 254 = .ok (.if_icmp .eq 5, 3) := by decide +kernel
theorem dL_law_257 : decode cL_law 257 = .ok (.iconst 0, 1) := by decide +kernel
theorem dL_law_258 : decode cL_law 258 = .ok (.ireturn, 1) := by decide +kernel
theorem dL_law_259 : decode cL_law 259 = .ok (.iload 5, 2) := by decide +kernel
theorem dL_law_261 : decode cL_law 261 = .ok (.ifCond .ne 15, 3) := by decide +kernel
theorem dL_law_264 : decode cL_law 264 = .ok (.aload_n 3, 1) := by decide +kernel
theorem dL_law_265 : decode cL_law 265 = .ok (.iconst 0, 1) := by decide +kernel
theorem dL_law_266 : decode cL_law 266 = .ok (.laload, 1) := by decide +kernel
theorem dL_law_267 : decode cL_law 267 = .ok (.iload 6, 2) := by decide +kernel
theorem dL_law_269 : decode cL_law 269 = .ok (.i2l, 1) := by decide +kernel
theorem dL_law_270 : decode cL_law 270 = .ok (.lcmp, 1) := by decide +kernel
theorem dL_law_271 : decode cL_law 271 = .ok (.ifCond .eq 5, 3) := by decide +kernel
theorem dL_law_274 : decode cL_law 274 = .ok (.iconst 0, 1) := by decide +kernel
theorem dL_law_275 : decode cL_law 275 = .ok (.ireturn, 1) := by decide +kernel
theorem dL_law_276 : decode cL_law 276 = .ok (.goto 225, 3) := by decide +kernel
theorem dL_law_279 : decode cL_law 279 = .ok (.aload_n 1, 1) := by decide +kernel
theorem dL_law_280 : decode cL_law 280 = .ok (.aload_n 0, 1) := by decide +kernel
theorem dL_law_281 : decode cL_law 281 = .ok (.iload 4, 2) := by decide +kernel
theorem dL_law_283 : decode cL_law 283 = .ok (.iconst 1, 1) := by decide +kernel
theorem dL_law_284 : decode cL_law 284 = .ok (.iadd, 1) := by decide +kernel
theorem dL_law_285 : decode cL_law 285 = .ok (.iaload, 1) := by decide +kernel
theorem dL_law_286 : decode cL_law 286 = .ok (.aload_n 0, 1) := by decide +kernel
theorem dL_law_287 : decode cL_law 287 = .ok (.iload 4, 2) := by decide +kernel
theorem dL_law_289 : decode cL_law 289 = .ok (.iconst 2, 1) := by decide +kernel
theorem dL_law_290 : decode cL_law 290 = .ok (.iadd, 1) := by decide +kernel
theorem dL_law_291 : decode cL_law 291 = .ok (.iaload, 1) := by decide +kernel
theorem dL_law_292 : decode cL_law 292 = .ok (.ifCond .eq 7, 3) := by decide +kernel
theorem dL_law_295 : decode cL_law 295 = .ok (.iconst 1, 1) := by decide +kernel
theorem dL_law_296 : decode cL_law 296 = .ok (.goto 4, 3) := by decide +kernel
theorem dL_law_299 : decode cL_law 299 = .ok (.iconst 0, 1) := by decide +kernel
theorem dL_law_300 : decode cL_law 300 = .ok (.invokevirtual 52, 3) := by decide +kernel
theorem dL_law_303 : decode cL_law 303 = .ok (.aload_n 2, 1) := by decide +kernel
theorem dL_law_304 : decode cL_law 304 = .ok (.aload_n 0, 1) := by decide +kernel
theorem dL_law_305 : decode cL_law 305 = .ok (.iload 4, 2) := by decide +kernel
theorem dL_law_307 : decode cL_law 307 = .ok (.iconst 1, 1) := by decide +kernel
theorem dL_law_308 : decode cL_law 308 = .ok (.iadd, 1) := by decide +kernel
theorem dL_law_309 : decode cL_law 309 = .ok (.iaload, 1) := by decide +kernel
theorem dL_law_310 : decode cL_law 310 = .ok (.aload_n 0, 1) := by decide +kernel
theorem dL_law_311 : decode cL_law 311 = .ok (.iload 4, 2) := by decide +kernel
theorem dL_law_313 : decode cL_law 313 = .ok (.iconst 2, 1) := by decide +kernel
theorem dL_law_314 : decode cL_law 314 = .ok (.iadd, 1) := by decide +kernel
theorem dL_law_315 : decode cL_law 315 = .ok (.iaload, 1) := by decide +kernel
theorem dL_law_316 : decode cL_law 316 = .ok (.ifCond .eq 7, 3) := by decide +kernel
theorem dL_law_319 : decode cL_law 319 = .ok (.iconst 1, 1) := by decide +kernel
theorem dL_law_320 : decode cL_law 320 = .ok (.goto 4, 3) := by decide +kernel
theorem dL_law_323 : decode cL_law 323 = .ok (.iconst 0, 1) := by decide +kernel
theorem dL_law_324 : decode cL_law 324 = .ok (.invokevirtual 56, 3) := by decide +kernel
theorem dL_law_327 : decode cL_law 327 = .ok (.if_icmp .eq 174, 3) := by decide +kernel
theorem dL_law_330 : decode cL_law 330 = .ok (.iconst 0, 1) := by decide +kernel
theorem dL_law_331 : decode cL_law 331 = .ok (.ireturn, 1) := by decide +kernel
theorem dL_law_332 : decode cL_law 332 = .ok (.aload_n 1, 1) := by decide +kernel
theorem dL_law_333 : decode cL_law 333 = .ok (.aload_n 0, 1) := by decide +kernel
theorem dL_law_334 : decode cL_law 334 = .ok (.iload 4, 2) := by decide +kernel
theorem dL_law_336 : decode cL_law 336 = .ok (.iconst 1, 1) := by decide +kernel
theorem dL_law_337 : decode cL_law 337 = .ok (.iadd, 1) := by decide +kernel
theorem dL_law_338 : decode cL_law 338 = .ok (.iaload, 1) := by decide +kernel
theorem dL_law_339 : decode cL_law 339 = .ok (.invokevirtual 57, 3) := by decide +kernel
theorem dL_law_342 : decode cL_law 342 = .ok (.aload_n 2, 1) := by decide +kernel
theorem dL_law_343 : decode cL_law 343 = .ok (.aload_n 0, 1) := by decide +kernel
theorem dL_law_344 : decode cL_law 344 = .ok (.iload 4, 2) := by decide +kernel
theorem dL_law_346 : decode cL_law 346 = .ok (.iconst 1, 1) := by decide +kernel
theorem dL_law_347 : decode cL_law 347 = .ok (.iadd, 1) := by decide +kernel
theorem dL_law_348 : decode cL_law 348 = .ok (.iaload, 1) := by decide +kernel
theorem dL_law_349 : decode cL_law 349 = .ok (.invokevirtual 60, 3) := by decide +kernel
theorem dL_law_352 : decode cL_law 352 = .ok (.if_icmp .eq 149, 3) := by decide +kernel
theorem dL_law_355 : decode cL_law 355 = .ok (.iconst 0, 1) := by decide +kernel
theorem dL_law_356 : decode cL_law 356 = .ok (.ireturn, 1) := by decide +kernel
theorem dL_law_357 : decode cL_law 357 = .ok (.aload_n 1, 1) := by decide +kernel
theorem dL_law_358 : decode cL_law 358 = .ok (.aload_n 0, 1) := by decide +kernel
theorem dL_law_359 : decode cL_law 359 = .ok (.iload 4, 2) := by decide +kernel
theorem dL_law_361 : decode cL_law 361 = .ok (.iconst 1, 1) := by decide +kernel
theorem dL_law_362 : decode cL_law 362 = .ok (.iadd, 1) := by decide +kernel
theorem dL_law_363 : decode cL_law 363 = .ok (.iaload, 1) := by decide +kernel
theorem dL_law_364 : decode cL_law 364 = .ok (.aload_n 0, 1) := by decide +kernel
theorem dL_law_365 : decode cL_law 365 = .ok (.iload 4, 2) := by decide +kernel
theorem dL_law_367 : decode cL_law 367 = .ok (.iconst 2, 1) := by decide +kernel
theorem dL_law_368 : decode cL_law 368 = .ok (.iadd, 1) := by decide +kernel
theorem dL_law_369 : decode cL_law 369 = .ok (.iaload, 1) := by decide +kernel
theorem dL_law_370 : decode cL_law 370 = .ok (.aload_n 3, 1) := by decide +kernel
theorem dL_law_371 : decode cL_law 371 = .ok (.invokestatic 61, 3) := by decide +kernel
theorem dL_law_374 : decode cL_law 374 = .ok (.istore 5, 2) := by decide +kernel
theorem dL_law_376 : decode cL_law 376 = .ok (.aload_n 2, 1) := by decide +kernel
theorem dL_law_377 : decode cL_law 377 = .ok (.aload_n 0, 1) := by decide +kernel
theorem dL_law_378 : decode cL_law 378 = .ok (.iload 4, 2) := by decide +kernel
theorem dL_law_380 : decode cL_law 380 = .ok (.iconst 1, 1) := by decide +kernel
theorem dL_law_381 : decode cL_law 381 = .ok (.iadd, 1) := by decide +kernel
theorem dL_law_382 : decode cL_law 382 = .ok (.iaload, 1) := by decide +kernel
theorem dL_law_383 : decode cL_law 383 = .ok (.aload_n 0, 1) := by decide +kernel
theorem dL_law_384 : decode cL_law 384 = .ok (.iload 4, 2) := by decide +kernel
theorem dL_law_386 : decode cL_law 386 = .ok (.iconst 2, 1) := by decide +kernel
theorem dL_law_387 : decode cL_law 387 = .ok (.iadd, 1) := by decide +kernel
theorem dL_law_388 : decode cL_law 388 = .ok (.iaload, 1) := by decide +kernel
theorem dL_law_389 : decode cL_law 389 = .ok (.invokevirtual 64, 3) := by decide +kernel
theorem dL_law_392 : decode cL_law 392 = .ok (.istore 6, 2) := by decide +kernel
theorem dL_law_394 : decode cL_law 394 = .ok (.aload_n 2, 1) := by decide +kernel
theorem dL_law_395 : decode cL_law 395 = .ok (.invokevirtual 48, 3) := by decide +kernel
theorem dL_law_398 : decode cL_law 398 = .ok (.iload 5, 2) := by decide +kernel
theorem dL_law_400 : decode cL_law 400 = .ok (.if_icmp .eq 5, 3) := by decide +kernel
theorem dL_law_403 : decode cL_law 403 = .ok (.iconst 0, 1) := by decide +kernel
theorem dL_law_404 : decode cL_law 404 = .ok (.ireturn, 1) := by decide +kernel
theorem dL_law_405 : decode cL_law 405 = .ok (.iload 5, 2) := by decide +kernel
theorem dL_law_407 : decode cL_law 407 = .ok (.ifCond .ne 15, 3) := by decide +kernel
theorem dL_law_410 : decode cL_law 410 = .ok (.aload_n 3, 1) := by decide +kernel
theorem dL_law_411 : decode cL_law 411 = .ok (.iconst 0, 1) := by decide +kernel
theorem dL_law_412 : decode cL_law 412 = .ok (.laload, 1) := by decide +kernel
theorem dL_law_413 : decode cL_law 413 = .ok (.iload 6, 2) := by decide +kernel
theorem dL_law_415 : decode cL_law 415 = .ok (.i2l, 1) := by decide +kernel
theorem dL_law_416 : decode cL_law 416 = .ok (.lcmp, 1) := by decide +kernel
theorem dL_law_417 : decode cL_law 417 = .ok (.ifCond .eq 5, 3) := by decide +kernel
theorem dL_law_420 : decode cL_law 420 = .ok (.iconst 0, 1) := by decide +kernel
theorem dL_law_421 : decode cL_law 421 = .ok (.ireturn, 1) := by decide +kernel
theorem dL_law_422 : decode cL_law 422 = .ok (.goto 79, 3) := by decide +kernel
theorem dL_law_425 : decode cL_law 425 = .ok (.aload_n 1, 1) := by decide +kernel
theorem dL_law_426 : decode cL_law 426 = .ok (.aload_n 0, 1) := by decide +kernel
theorem dL_law_427 : decode cL_law 427 = .ok (.iload 4, 2) := by decide +kernel
theorem dL_law_429 : decode cL_law 429 = .ok (.iconst 1, 1) := by decide +kernel
theorem dL_law_430 : decode cL_law 430 = .ok (.iadd, 1) := by decide +kernel
theorem dL_law_431 : decode cL_law 431 = .ok (.iaload, 1) := by decide +kernel
theorem dL_law_432 : decode cL_law 432 = .ok (.invokevirtual 65, 3) := by decide +kernel
theorem dL_law_435 : decode cL_law 435 = .ok (.aload_n 2, 1) := by decide +kernel
theorem dL_law_436 : decode cL_law 436 = .ok (.aload_n 0, 1) := by decide +kernel
theorem dL_law_437 : decode cL_law 437 = .ok (.iload 4, 2) := by decide +kernel
theorem dL_law_439 : decode cL_law 439 = .ok (.iconst 1, 1) := by decide +kernel
theorem dL_law_440 : decode cL_law 440 = .ok (.iadd, 1) := by decide +kernel
theorem dL_law_441 : decode cL_law 441 = .ok (.iaload, 1) := by decide +kernel
theorem dL_law_442 : decode cL_law 442 = .ok (.invokevirtual 68, 3) := by decide +kernel
theorem dL_law_445 : decode cL_law 445 = .ok (.if_icmp .eq 56, 3) := by decide +kernel
theorem dL_law_448 : decode cL_law 448 = .ok (.iconst 0, 1) := by decide +kernel
theorem dL_law_449 : decode cL_law 449 = .ok (.ireturn, 1) := by decide +kernel
theorem dL_law_450 : decode cL_law 450 = .ok (.aload_n 1, 1) := by decide +kernel
theorem dL_law_451 : decode cL_law 451 = .ok (.aload_n 0, 1) := by decide +kernel
theorem dL_law_452 : decode cL_law 452 = .ok (.iload 4, 2) := by decide +kernel
theorem dL_law_454 : decode cL_law 454 = .ok (.iconst 1, 1) := by decide +kernel
theorem dL_law_455 : decode cL_law 455 = .ok (.iadd, 1) := by decide +kernel
theorem dL_law_456 : decode cL_law 456 = .ok (.iaload, 1) := by decide +kernel
theorem dL_law_457 : decode cL_law 457 = .ok (.invokevirtual 69, 3) := by decide +kernel
theorem dL_law_460 : decode cL_law 460 = .ok (.aload_n 2, 1) := by decide +kernel
theorem dL_law_461 : decode cL_law 461 = .ok (.aload_n 0, 1) := by decide +kernel
theorem dL_law_462 : decode cL_law 462 = .ok (.iload 4, 2) := by decide +kernel
theorem dL_law_464 : decode cL_law 464 = .ok (.iconst 1, 1) := by decide +kernel
theorem dL_law_465 : decode cL_law 465 = .ok (.iadd, 1) := by decide +kernel
theorem dL_law_466 : decode cL_law 466 = .ok (.iaload, 1) := by decide +kernel
theorem dL_law_467 : decode cL_law 467 = .ok (.invokevirtual 73, 3) := by decide +kernel
theorem dL_law_470 : decode cL_law 470 = .ok (.lcmp, 1) := by decide +kernel
theorem dL_law_471 : decode cL_law 471 = .ok (.ifCond .eq 30, 3) := by decide +kernel
theorem dL_law_474 : decode cL_law 474 = .ok (.iconst 0, 1) := by decide +kernel
theorem dL_law_475 : decode cL_law 475 = .ok (.ireturn, 1) := by decide +kernel
theorem dL_law_476 : decode cL_law 476 = .ok (.aload_n 1, 1) := by decide +kernel
theorem dL_law_477 : decode cL_law 477 = .ok (.aload_n 0, 1) := by decide +kernel
theorem dL_law_478 : decode cL_law 478 = .ok (.iload 4, 2) := by decide +kernel
theorem dL_law_480 : decode cL_law 480 = .ok (.iconst 1, 1) := by decide +kernel
theorem dL_law_481 : decode cL_law 481 = .ok (.iadd, 1) := by decide +kernel
theorem dL_law_482 : decode cL_law 482 = .ok (.iaload, 1) := by decide +kernel
theorem dL_law_483 : decode cL_law 483 = .ok (.invokevirtual 74, 3) := by decide +kernel
theorem dL_law_486 : decode cL_law 486 = .ok (.aload_n 2, 1) := by decide +kernel
theorem dL_law_487 : decode cL_law 487 = .ok (.aload_n 0, 1) := by decide +kernel
theorem dL_law_488 : decode cL_law 488 = .ok (.iload 4, 2) := by decide +kernel
theorem dL_law_490 : decode cL_law 490 = .ok (.iconst 1, 1) := by decide +kernel
theorem dL_law_491 : decode cL_law 491 = .ok (.iadd, 1) := by decide +kernel
theorem dL_law_492 : decode cL_law 492 = .ok (.iaload, 1) := by decide +kernel
theorem dL_law_493 : decode cL_law 493 = .ok (.invokevirtual 77, 3) := by decide +kernel
theorem dL_law_496 : decode cL_law 496 = .ok (.if_icmp .eq 5, 3) := by decide +kernel
theorem dL_law_499 : decode cL_law 499 = .ok (.iconst 0, 1) := by decide +kernel
theorem dL_law_500 : decode cL_law 500 = .ok (.ireturn, 1) := by decide +kernel
theorem dL_law_501 : decode cL_law 501 = .ok (.iinc 4 4, 3) := by decide +kernel
theorem dL_law_504 : decode cL_law 504 = .ok (.goto (-461), 3) := by decide +kernel
theorem dL_law_507 : decode cL_law 507 = .ok (.iconst 1, 1) := by decide +kernel
theorem dL_law_508 : decode cL_law 508 = .ok (.ireturn, 1) := by decide +kernel
abbrev vwCl : List vw_C := [(RJx00060, TJx00060, 6), (RX0, TX0, 4), (RX1, TX1, 5), (RX2, TX2, 8), (RX4, TX4, 13), (RX5, TX5, 22)]
end
section
/-! MY OWN ROWS: worlds by names. A world C says of a name (k, i) which cell it is; al says where it lies; everything that the law makes lies from bs on. -/
abbrev Wo : Type := Nat → Nat → Option va_E
abbrev Ad : Type := Nat → Nat → Nat
def wup (C : Wo) (k i : Nat) (e : va_E) : Wo := fun k' i' => if k' = k ∧ i' = i then some e else C k' i'
def aup (al : Ad) (k i q : Nat) : Ad := fun k' i' => if k' = k ∧ i' = i then q else al k' i'
theorem wup_self {C : Wo} {k i : Nat} {e : va_E} : wup C k i e k i = some e := by simp [wup]
theorem wup_ne {C : Wo} {k i k' i' : Nat} {e : va_E} (h : ¬ (k' = k ∧ i' = i)) : wup C k i e k' i' = C k' i' := by simp [wup, h]
theorem aup_self {al : Ad} {k i q : Nat} : aup al k i q k i = q := by simp [aup]
theorem aup_ne {al : Ad} {k i k' i' q : Nat} (h : ¬ (k' = k ∧ i' = i)) : aup al k i q k' i' = al k' i' := by simp [aup, h]
def fr (bs : Nat) : Nat → Prop := fun q => bs ≤ q
def wd (D : va_G) (bs : Nat) (al : Ad) (C : Wo) (H : Heap) : Prop :=
  (∀ (k i : Nat) (e : va_E), C k i = some e → bs ≤ al k i ∧ va_at D vwCl (al k i, e) H) ∧ ∀ (k i k' i' : Nat) (e e' : va_E), C k i = some e → C k' i' = some e' → al k i = al k' i' → k = k' ∧ i = i'
theorem wd.set {D : va_G} {bs : Nat} {al : Ad} {C : Wo} {H H1 : Heap} (h : wd D bs al C H) {k i : Nat} {e0 e : va_E} (h0 : C k i = some e0) (he : va_at D vwCl (al k i, e) H1) (oq : ∀ q : Nat, q ≠ al k i → H1[q]? = H[q]?) : wd D bs al (wup C k i e) H1 := by
  have key : ∀ k' i' e', wup C k i e k' i' = some e' → (k' = k ∧ i' = i ∧ e' = e) ∨ (¬ (k' = k ∧ i' = i) ∧ C k' i' = some e') := by
    intro k' i' e' hh
    by_cases hq : k' = k ∧ i' = i
    · obtain ⟨rfl, rfl⟩ := hq
      rw [wup_self] at hh
      exact Or.inl ⟨rfl, rfl, (Option.some.inj hh).symm⟩
    · rw [wup_ne hq] at hh
      exact Or.inr ⟨hq, hh⟩
  have dom : ∀ k' i' e', wup C k i e k' i' = some e' → ∃ e2, C k' i' = some e2 := by
    intro k' i' e' hh
    rcases key k' i' e' hh with ⟨rfl, rfl, -⟩ | ⟨-, hh⟩
    · exact ⟨_, h0⟩
    · exact ⟨_, hh⟩
  refine ⟨fun k' i' e' hh => ?_, fun k1 i1 k2 i2 e1 e2 h1 h2 hal => ?_⟩
  · rcases key k' i' e' hh with ⟨rfl, rfl, rfl⟩ | ⟨hq, hh⟩
    · exact ⟨(h.1 _ _ _ h0).1, he⟩
    · refine ⟨(h.1 _ _ _ hh).1, (h.1 _ _ _ hh).2.kept (oq _ (fun z => hq ?_))⟩
      exact h.2 _ _ _ _ _ _ hh h0 z
  · obtain ⟨_, h1⟩ := dom _ _ _ h1
    obtain ⟨_, h2⟩ := dom _ _ _ h2
    exact h.2 _ _ _ _ _ _ h1 h2 hal
theorem wd.lt {D : va_G} {bs : Nat} {al : Ad} {C : Wo} {H : Heap} (h : wd D bs al C H) {k i : Nat} {e : va_E} (h0 : C k i = some e) : al k i < H.size := (h.1 k i e h0).2.lt
theorem wd.kept {D : va_G} {bs : Nat} {al : Ad} {C : Wo} {H H1 : Heap} (h : wd D bs al C H) (o1 : ∀ q : Nat, q < H.size → H1[q]? = H[q]?) : wd D bs al C H1 :=
  ⟨fun k i e hh => ⟨(h.1 k i e hh).1, (h.1 k i e hh).2.kept (o1 _ (h.lt hh))⟩, h.2⟩
theorem wd.new {D : va_G} {bs : Nat} {al : Ad} {C : Wo} {H H1 : Heap} (h : wd D bs al C H) (hb : bs ≤ H.size) {k i : Nat} {e : va_E} (hn : C k i = none) (he : va_at D vwCl (H.size, e) H1) (o1 : ∀ q : Nat, q < H.size → H1[q]? = H[q]?) : wd D bs (aup al k i H.size) (wup C k i e) H1 := by
  have key : ∀ k' i' e', wup C k i e k' i' = some e' → (k' = k ∧ i' = i ∧ e' = e ∧ aup al k i H.size k' i' = H.size) ∨ (¬ (k' = k ∧ i' = i) ∧ C k' i' = some e' ∧ aup al k i H.size k' i' = al k' i' ∧ al k' i' < H.size) := by
    intro k' i' e' hh
    by_cases hq : k' = k ∧ i' = i
    · obtain ⟨rfl, rfl⟩ := hq
      rw [wup_self] at hh
      exact Or.inl ⟨rfl, rfl, (Option.some.inj hh).symm, aup_self⟩
    · rw [wup_ne hq] at hh
      exact Or.inr ⟨hq, hh, aup_ne hq, h.lt hh⟩
  refine ⟨fun k' i' e' hh => ?_, fun k1 i1 k2 i2 e1 e2 h1 h2 hal => ?_⟩
  · rcases key k' i' e' hh with ⟨rfl, rfl, rfl, q⟩ | ⟨hq, hh, q, q2⟩
    · rw [q]; exact ⟨hb, he⟩
    · rw [q]; exact ⟨(h.1 _ _ _ hh).1, (h.1 _ _ _ hh).2.kept (o1 _ q2)⟩
  · rcases key _ _ _ h1 with ⟨rfl, rfl, rfl, q⟩ | ⟨hq, h1, q, q2⟩ <;> rcases key _ _ _ h2 with ⟨rfl, rfl, rfl, r⟩ | ⟨hr, h2, r, r2⟩
    · exact ⟨rfl, rfl⟩
    · rw [q, r] at hal; omega
    · rw [q, r] at hal; omega
    · rw [q, r] at hal
      exact h.2 _ _ _ _ _ _ h1 h2 hal
theorem va_P1 {D : va_G} {cl : List vw_C} {q : Nat × va_E} {H : Heap} (h : va_at D cl q H) : va_P D cl [q] H := by
  intro k r hk
  have := List.mem_of_getElem? hk
  rw [List.mem_singleton] at this
  rw [this]
  exact h
/-- the array classes: 0 Item[], 1 Induct[], 2 Chute[], 3 int[], 4 long[], 5 boolean[] -/
abbrev tyT (ta : Nat → ClassId) : List (ClassId × FieldType) := [(ta 0, .object RX2), (ta 1, .object RX1), (ta 2, .object RX0), (ta 3, .int), (ta 4, .long), (ta 5, .boolean)]
def plN (j : Nat) : String := if j = 0 then "WAITING" else if j = 1 then "CARRIED" else if j = 2 then "MISSED" else "OUT"
/-- what stays as it is: the classes, the array classes, the enum's constants -/
def En (D : va_G) (ta : Nat → ClassId) (pl : Nat → Nat) (bs : Nat) (U : State) : Prop := va_K D vwCl (tyT ta) U ∧ bs ≤ U.heap.size ∧ (∀ j, j < 4 → va_Z RX3 (plN j) "LLoopSorter$Place;" (.ref (pl j)) (fr bs) U U.heap) ∧ (∀ i j, i < 4 → j < 4 → pl i = pl j → i = j) ∧ va_AO RX2 U ∧ va_AO RX1 U ∧ va_AO RX0 U
theorem En.moved {D : va_G} {ta : Nat → ClassId} {pl : Nat → Nat} {bs : Nat} {u U : State} {locs : List Loc} (h : En D ta pl bs u) (hvm : u.vm.Alike U.vm) (hS : va_S (fr bs) u.heap U.heap locs) : En D ta pl bs U :=
  ⟨va_K.moved hvm h.1, Nat.le_trans h.2.1 hS.1, fun j hj => (va_Z.moved hvm (h.2.2.1 j hj)).kept hS.2.1, h.2.2.2.1, va_AO.moved hvm h.2.2.2.2.1, va_AO.moved hvm h.2.2.2.2.2.1, va_AO.moved hvm h.2.2.2.2.2.2⟩
/-- what holds all through a method's walk -/
def Cx (D : va_G) (ta : Nat → ClassId) (pl : Nat → Nat) (bs nL : Nat) (p : Program) (s : State) (m : MethodId) (args : Array Value) (meth : Method) (c : Code) (cc : ByteArray) (Ts : List Cond) (own : String) (rt : Option FieldType) : Prop :=
  CallFix p m c cc nL s args Ts own ∧ meth.sig.returnType = rt ∧ meth.locks = false ∧ En D ta pl bs s
/-- the machine at pc, with these locals, this stack, this world -/
def WW (D : va_G) (bs nL : Nat) (p : Program) (l : Launch) (e : Env) (R : Room) (s : State) (m : MethodId) (args : Array Value) (below : List Frame) (meth : Method) (c : Code) (Q : State → Prop) (al : Ad) (C : Wo) (cells slots pc : Nat) (lv : List (Nat × Value)) (st : List Value) : Prop :=
  ∀ (H : Heap) (locs : List Loc) (ls : Array Slot), wd D bs al C H → va_S (fr bs) s.heap H locs → lv_has ls nL lv → W p l e R s m args below meth c H locs cells slots Q (F0 m pc ls st)
/-- a contract: the arguments, the world before; 'post' of the answer, the places and the world behind -/
def GM (l : Launch) (D : va_G) (ta : Nat → ClassId) (pl : Nat → Nat) (bs : Nat) (y : MethodName) (ws : List Cond) (rm : Room) (mc ms : Nat) (av : List Value) (al : Ad) (C : Wo) (post : Option Value → Ad → Wo → Prop) : Prop :=
  Met l y ws rm (va_Pc av (fun U => wd D bs al C U.heap ∧ En D ta pl bs U)) (fun _ s0 oc t => (∃ (rv : Option Value) (al' : Ad) (C' : Wo), oc = .returned rv ∧ post rv al' C' ∧ wd D bs al' C' t.heap) ∧ va_F (fr bs) s0 t) mc ms (fr bs)
/-- the one answer, the same places, the one world behind -/
abbrev GD (l : Launch) (D : va_G) (ta : Nat → ClassId) (pl : Nat → Nat) (bs : Nat) (y : MethodName) (ws : List Cond) (rm : Room) (av : List Value) (al : Ad) (C : Wo) (rv : Option Value) (C1 : Wo) : Prop :=
  GM l D ta pl bs y ws rm 0 0 av al C (fun r al' C' => r = rv ∧ al' = al ∧ C' = C1)
/-- room for f frames, lo words of locals -/
abbrev rmF (f lo : Nat) : Room := { frames := f, cells := 0, slots := 0, locals := lo }
/-- the end of a method: what its answer must be -/
def QQ (D : va_G) (bs : Nat) (below : List Frame) (args : Array Value) (s : State) (mc ms : Nat) (post : Option Value → Ad → Wo → Prop) : State → Prop :=
  MQ below (fun _ s0 oc t => (∃ (rv : Option Value) (al' : Ad) (C' : Wo), oc = .returned rv ∧ post rv al' C' ∧ wd D bs al' C' t.heap) ∧ va_F (fr bs) s0 t) args s mc ms (fr bs)
theorem GM.of {l : Launch} {D : va_G} {ta : Nat → ClassId} {pl : Nat → Nat} {bs : Nat} {y : MethodName} {ws ws' : List Cond} {rm : Room} {mc ms : Nat} {av : List Value} {al : Ad} {C : Wo} {post : Option Value → Ad → Wo → Prop} {cc : ByteArray} {maxL : Nat} {rt : Option FieldType}
    (hy : plainName y.cls = true) (hw : ws = Cond.code y cc maxL rt :: ws') (hlen : (lg_sl av).length ≤ maxL)
    (body : ∀ (p : Program) (e : Env) (s : State) (m : MethodId) (args : Array Value) (below : List Frame) (meth : Method) (c : Code), Cx D ta pl bs maxL p s m args meth c cc ws y.cls rt → meth.name = y.name →
      WW D bs maxL p l e rm s m args below meth c (QQ D bs below args s mc ms post) al C 0 0 0 (lv_args 0 av) []) : GM l D ta pl bs y ws rm mc ms av al C post := by
  refine Met.ofW hy hw ?_
  intro p e s m args below meth c s₁ B hml hv
  obtain ⟨rfl, hwd, hE⟩ := hv
  have hK := body p e s m _ below meth c ⟨⟨B.exec, B.bytes, hml, findClass_of_methodNamed B.named, atoms_spec (ws := ws) B.pre⟩, B.returns, B.notSynchronized, hE⟩ (name_of_methodNamed B.named B.method).1
  rw [lg_entry_eq]
  exact hK s.heap [] _ hwd va_S.rf (lv_entry av hlen)
section GB
variable {p : Program} {l : Launch} {e : Env} {R : Room} {s : State} {m : MethodId} {args : Array Value} {below : List Frame} {meth : Method} {c : Code} {Q : State → Prop}
variable {D : va_G} {ta : Nat → ClassId} {pl : Nat → Nat} {bs nL : Nat} {cc : ByteArray} {Ts : List Cond} {own : String} {rt : Option FieldType}
variable {al : Ad} {C : Wo} {cells slots pc : Nat} {lv : List (Nat × Value)} {st : List Value}
theorem g_iload_n (X : Cx D ta pl bs nL p s m args meth c cc Ts own rt) {k : Fin 4} {i : Nat} {x : Int32} (j : Nat) (hd : decode cc pc = .ok (.iload_n k, 1)) (hi : (k : Nat) = i) (hv : lv[j]? = some (i, .int x)) (K : WW D bs nL p l e R s m args below meth c Q al C cells slots (pc + 1) lv (.int x :: st)) : WW D bs nL p l e R s m args below meth c Q al C cells slots pc lv st := fun H locs ls hw hS hl => lv_iload_n X.1.1 X.1.2.1 hd hi (lv_at hl j hv) (K H locs ls hw hS hl)
theorem g_aload_n (X : Cx D ta pl bs nL p s m args meth c cc Ts own rt) {k : Fin 4} {i : Nat} {x : Nat} (j : Nat) (hd : decode cc pc = .ok (.aload_n k, 1)) (hi : (k : Nat) = i) (hv : lv[j]? = some (i, .ref x)) (K : WW D bs nL p l e R s m args below meth c Q al C cells slots (pc + 1) lv (.ref x :: st)) : WW D bs nL p l e R s m args below meth c Q al C cells slots pc lv st := fun H locs ls hw hS hl => lv_aload_n X.1.1 X.1.2.1 hd hi (lv_at hl j hv) (K H locs ls hw hS hl)
theorem g_aload_nN (X : Cx D ta pl bs nL p s m args meth c cc Ts own rt) {k : Fin 4} {i : Nat} (j : Nat) (hd : decode cc pc = .ok (.aload_n k, 1)) (hi : (k : Nat) = i) (hv : lv[j]? = some (i, .null)) (K : WW D bs nL p l e R s m args below meth c Q al C cells slots (pc + 1) lv (.null :: st)) : WW D bs nL p l e R s m args below meth c Q al C cells slots pc lv st := fun H locs ls hw hS hl => lv_aload_nN X.1.1 X.1.2.1 hd hi (lv_at hl j hv) (K H locs ls hw hS hl)
theorem g_iload (X : Cx D ta pl bs nL p s m args meth c cc Ts own rt) {i : Nat} {x : Int32} (j : Nat) (hd : decode cc pc = .ok (.iload i, 2)) (hv : lv[j]? = some (i, .int x)) (K : WW D bs nL p l e R s m args below meth c Q al C cells slots (pc + 2) lv (.int x :: st)) : WW D bs nL p l e R s m args below meth c Q al C cells slots pc lv st := fun H locs ls hw hS hl => lv_iload X.1.1 X.1.2.1 hd (lv_at hl j hv) (K H locs ls hw hS hl)
theorem g_aload (X : Cx D ta pl bs nL p s m args meth c cc Ts own rt) {i : Nat} {x : Nat} (j : Nat) (hd : decode cc pc = .ok (.aload i, 2)) (hv : lv[j]? = some (i, .ref x)) (K : WW D bs nL p l e R s m args below meth c Q al C cells slots (pc + 2) lv (.ref x :: st)) : WW D bs nL p l e R s m args below meth c Q al C cells slots pc lv st := fun H locs ls hw hS hl => lv_aload X.1.1 X.1.2.1 hd (lv_at hl j hv) (K H locs ls hw hS hl)
theorem g_aloadN (X : Cx D ta pl bs nL p s m args meth c cc Ts own rt) {i : Nat}  (j : Nat) (hd : decode cc pc = .ok (.aload i, 2)) (hv : lv[j]? = some (i, .null)) (K : WW D bs nL p l e R s m args below meth c Q al C cells slots (pc + 2) lv (.null :: st)) : WW D bs nL p l e R s m args below meth c Q al C cells slots pc lv st := fun H locs ls hw hS hl => lv_aloadN X.1.1 X.1.2.1 hd (lv_at hl j hv) (K H locs ls hw hS hl)
theorem g_istore_n (X : Cx D ta pl bs nL p s m args meth c cc Ts own rt) {k : Fin 4} {i : Nat} {x : Int32} (lv' : List (Nat × Value)) (hd : decode cc pc = .ok (.istore_n k, 1)) (hi : (k : Nat) = i) (hn : i < nL) (hl' : (i, Value.int x) :: lv.filter (fun q => !(q.1 == i) && !(q.1 + 1 == i && q.2.category == 2)) = lv') (K : WW D bs nL p l e R s m args below meth c Q al C cells slots (pc + 1) lv' st) : WW D bs nL p l e R s m args below meth c Q al C cells slots pc lv (.int x :: st) := fun H locs ls hw hS hl => lv_istore_n X.1.1 X.1.2.1 hd hi hl hn hl' (fun ls hl => K H locs ls hw hS hl)
theorem g_astore_n (X : Cx D ta pl bs nL p s m args meth c cc Ts own rt) {k : Fin 4} {i : Nat} {x : Nat} (lv' : List (Nat × Value)) (hd : decode cc pc = .ok (.astore_n k, 1)) (hi : (k : Nat) = i) (hn : i < nL) (hl' : (i, Value.ref x) :: lv.filter (fun q => !(q.1 == i) && !(q.1 + 1 == i && q.2.category == 2)) = lv') (K : WW D bs nL p l e R s m args below meth c Q al C cells slots (pc + 1) lv' st) : WW D bs nL p l e R s m args below meth c Q al C cells slots pc lv (.ref x :: st) := fun H locs ls hw hS hl => lv_astore_n X.1.1 X.1.2.1 hd hi hl hn hl' (fun ls hl => K H locs ls hw hS hl)
theorem g_astore_nN (X : Cx D ta pl bs nL p s m args meth c cc Ts own rt) {k : Fin 4} {i : Nat}  (lv' : List (Nat × Value)) (hd : decode cc pc = .ok (.astore_n k, 1)) (hi : (k : Nat) = i) (hn : i < nL) (hl' : (i, Value.null) :: lv.filter (fun q => !(q.1 == i) && !(q.1 + 1 == i && q.2.category == 2)) = lv') (K : WW D bs nL p l e R s m args below meth c Q al C cells slots (pc + 1) lv' st) : WW D bs nL p l e R s m args below meth c Q al C cells slots pc lv (.null :: st) := fun H locs ls hw hS hl => lv_astore_nN X.1.1 X.1.2.1 hd hi hl hn hl' (fun ls hl => K H locs ls hw hS hl)
theorem g_istore (X : Cx D ta pl bs nL p s m args meth c cc Ts own rt) {i : Nat} {x : Int32} (lv' : List (Nat × Value)) (hd : decode cc pc = .ok (.istore i, 2)) (hn : i < nL) (hl' : (i, Value.int x) :: lv.filter (fun q => !(q.1 == i) && !(q.1 + 1 == i && q.2.category == 2)) = lv') (K : WW D bs nL p l e R s m args below meth c Q al C cells slots (pc + 2) lv' st) : WW D bs nL p l e R s m args below meth c Q al C cells slots pc lv (.int x :: st) := fun H locs ls hw hS hl => lv_istore X.1.1 X.1.2.1 hd hl hn hl' (fun ls hl => K H locs ls hw hS hl)
theorem g_astore (X : Cx D ta pl bs nL p s m args meth c cc Ts own rt) {i : Nat} {x : Nat} (lv' : List (Nat × Value)) (hd : decode cc pc = .ok (.astore i, 2)) (hn : i < nL) (hl' : (i, Value.ref x) :: lv.filter (fun q => !(q.1 == i) && !(q.1 + 1 == i && q.2.category == 2)) = lv') (K : WW D bs nL p l e R s m args below meth c Q al C cells slots (pc + 2) lv' st) : WW D bs nL p l e R s m args below meth c Q al C cells slots pc lv (.ref x :: st) := fun H locs ls hw hS hl => lv_astore X.1.1 X.1.2.1 hd hl hn hl' (fun ls hl => K H locs ls hw hS hl)
theorem g_astoreN (X : Cx D ta pl bs nL p s m args meth c cc Ts own rt) {i : Nat}  (lv' : List (Nat × Value)) (hd : decode cc pc = .ok (.astore i, 2)) (hn : i < nL) (hl' : (i, Value.null) :: lv.filter (fun q => !(q.1 == i) && !(q.1 + 1 == i && q.2.category == 2)) = lv') (K : WW D bs nL p l e R s m args below meth c Q al C cells slots (pc + 2) lv' st) : WW D bs nL p l e R s m args below meth c Q al C cells slots pc lv (.null :: st) := fun H locs ls hw hS hl => lv_astoreN X.1.1 X.1.2.1 hd hl hn hl' (fun ls hl => K H locs ls hw hS hl)
theorem g_iinc (X : Cx D ta pl bs nL p s m args meth c cc Ts own rt) {i : Nat} {n : Int} {x v : Int32} (j : Nat) (lv' : List (Nat × Value)) (hd : decode cc pc = .ok (.iinc i n, 3)) (hj : lv[j]? = some (i, .int x)) (hv : x + Int32.ofInt n = v) (hn : i < nL) (hl' : (i, Value.int v) :: lv.filter (fun q => !(q.1 == i) && !(q.1 + 1 == i && q.2.category == 2)) = lv') (K : WW D bs nL p l e R s m args below meth c Q al C cells slots (pc + 3) lv' st) : WW D bs nL p l e R s m args below meth c Q al C cells slots pc lv st := fun H locs ls hw hS hl => lv_iinc X.1.1 X.1.2.1 hd hl hj hv hn hl' (fun ls hl => K H locs ls hw hS hl)
theorem g_iconst (X : Cx D ta pl bs nL p s m args meth c cc Ts own rt) {n : Int} {v : Int32} (hd : decode cc pc = .ok (.iconst n, 1)) (hv : Int32.ofInt n = v) (K : WW D bs nL p l e R s m args below meth c Q al C cells slots (pc + 1) lv (.int v :: st)) : WW D bs nL p l e R s m args below meth c Q al C cells slots pc lv st := fun H locs ls hw hS hl => lv_iconst X.1.1 X.1.2.1 hd hv (K H locs ls hw hS hl)
theorem g_bipush (X : Cx D ta pl bs nL p s m args meth c cc Ts own rt) {n : Int} {v : Int32} (hd : decode cc pc = .ok (.bipush n, 2)) (hv : (Int8.ofInt n).toInt32 = v) (K : WW D bs nL p l e R s m args below meth c Q al C cells slots (pc + 2) lv (.int v :: st)) : WW D bs nL p l e R s m args below meth c Q al C cells slots pc lv st := fun H locs ls hw hS hl => lv_bipush X.1.1 X.1.2.1 hd hv (K H locs ls hw hS hl)
theorem g_sipush (X : Cx D ta pl bs nL p s m args meth c cc Ts own rt) {n : Int} {v : Int32} (hd : decode cc pc = .ok (.sipush n, 3)) (hv : (Int16.ofInt n).toInt32 = v) (K : WW D bs nL p l e R s m args below meth c Q al C cells slots (pc + 3) lv (.int v :: st)) : WW D bs nL p l e R s m args below meth c Q al C cells slots pc lv st := fun H locs ls hw hS hl => lv_sipush X.1.1 X.1.2.1 hd hv (K H locs ls hw hS hl)
theorem g_lconst (X : Cx D ta pl bs nL p s m args meth c cc Ts own rt) {n : Fin 2} {v : Int64} (hd : decode cc pc = .ok (.lconst n, 1)) (hv : Int64.ofNat (n : Nat) = v) (K : WW D bs nL p l e R s m args below meth c Q al C cells slots (pc + 1) lv (.long v :: st)) : WW D bs nL p l e R s m args below meth c Q al C cells slots pc lv st := fun H locs ls hw hS hl => lv_lconst X.1.1 X.1.2.1 hd hv (K H locs ls hw hS hl)
theorem g_ldc2 (X : Cx D ta pl bs nL p s m args meth c cc Ts own rt) {index : Nat} {v : Int64} (hd : decode cc pc = .ok (.ldc2_w index, 3)) (hw0 : Jvm.Cond.constantLong own index v ∈ Ts) (K : WW D bs nL p l e R s m args below meth c Q al C cells slots (pc + 3) lv (.long v :: st)) : WW D bs nL p l e R s m args below meth c Q al C cells slots pc lv st := fun H locs ls hw hS hl => lv_ldc2 X.1.1 X.1.2.1 X.1.2.2.2.1 (X.1.2.2.2.2 _ hw0) hd (K H locs ls hw hS hl)
theorem g_null (X : Cx D ta pl bs nL p s m args meth c cc Ts own rt) (hd : decode cc pc = .ok (.aconst_null, 1)) (K : WW D bs nL p l e R s m args below meth c Q al C cells slots (pc + 1) lv (.null :: st)) : WW D bs nL p l e R s m args below meth c Q al C cells slots pc lv st := fun H locs ls hw hS hl => lv_null X.1.1 X.1.2.1 hd (K H locs ls hw hS hl)
theorem g_iadd (X : Cx D ta pl bs nL p s m args meth c cc Ts own rt) {x y v : Int32} (hd : decode cc pc = .ok (.iadd, 1)) (hv : x + y = v) (K : WW D bs nL p l e R s m args below meth c Q al C cells slots (pc + 1) lv (.int v :: st)) : WW D bs nL p l e R s m args below meth c Q al C cells slots pc lv (.int y :: .int x :: st) := fun H locs ls hw hS hl => lv_iadd X.1.1 X.1.2.1 hd (by rw [hv]; exact K H locs ls hw hS hl)
theorem g_isub (X : Cx D ta pl bs nL p s m args meth c cc Ts own rt) {x y v : Int32} (hd : decode cc pc = .ok (.isub, 1)) (hv : x - y = v) (K : WW D bs nL p l e R s m args below meth c Q al C cells slots (pc + 1) lv (.int v :: st)) : WW D bs nL p l e R s m args below meth c Q al C cells slots pc lv (.int y :: .int x :: st) := fun H locs ls hw hS hl => lv_isub X.1.1 X.1.2.1 hd (by rw [hv]; exact K H locs ls hw hS hl)
theorem g_imul (X : Cx D ta pl bs nL p s m args meth c cc Ts own rt) {x y v : Int32} (hd : decode cc pc = .ok (.imul, 1)) (hv : x * y = v) (K : WW D bs nL p l e R s m args below meth c Q al C cells slots (pc + 1) lv (.int v :: st)) : WW D bs nL p l e R s m args below meth c Q al C cells slots pc lv (.int y :: .int x :: st) := fun H locs ls hw hS hl => lv_imul X.1.1 X.1.2.1 hd (by rw [hv]; exact K H locs ls hw hS hl)
theorem g_ladd (X : Cx D ta pl bs nL p s m args meth c cc Ts own rt) {x y v : Int64} (hd : decode cc pc = .ok (.ladd, 1)) (hv : x + y = v) (K : WW D bs nL p l e R s m args below meth c Q al C cells slots (pc + 1) lv (.long v :: st)) : WW D bs nL p l e R s m args below meth c Q al C cells slots pc lv (.long y :: .long x :: st) := fun H locs ls hw hS hl => lv_ladd X.1.1 X.1.2.1 hd (by rw [hv]; exact K H locs ls hw hS hl)
theorem g_iand (X : Cx D ta pl bs nL p s m args meth c cc Ts own rt) {x y v : Int32} (hd : decode cc pc = .ok (.iand, 1)) (hv : x &&& y = v) (K : WW D bs nL p l e R s m args below meth c Q al C cells slots (pc + 1) lv (.int v :: st)) : WW D bs nL p l e R s m args below meth c Q al C cells slots pc lv (.int y :: .int x :: st) := fun H locs ls hw hS hl => lv_iand X.1.1 X.1.2.1 hd (by rw [hv]; exact K H locs ls hw hS hl)
theorem g_idiv (X : Cx D ta pl bs nL p s m args meth c cc Ts own rt) {x y v : Int32} (hd : decode cc pc = .ok (.idiv, 1)) (hne : ¬ y = 0) (hv : x / y = v) (K : WW D bs nL p l e R s m args below meth c Q al C cells slots (pc + 1) lv (.int v :: st)) : WW D bs nL p l e R s m args below meth c Q al C cells slots pc lv (.int y :: .int x :: st) := fun H locs ls hw hS hl => lv_idiv X.1.1 X.1.2.1 hd hne (by rw [hv]; exact K H locs ls hw hS hl)
theorem g_i2l (X : Cx D ta pl bs nL p s m args meth c cc Ts own rt) {x : Int32} {v : Int64} (hd : decode cc pc = .ok (.i2l, 1)) (hv : x.toInt64 = v) (K : WW D bs nL p l e R s m args below meth c Q al C cells slots (pc + 1) lv (.long v :: st)) : WW D bs nL p l e R s m args below meth c Q al C cells slots pc lv (.int x :: st) := fun H locs ls hw hS hl => lv_i2l X.1.1 X.1.2.1 hd hv (K H locs ls hw hS hl)
theorem g_lcmp (X : Cx D ta pl bs nL p s m args meth c cc Ts own rt) {x y : Int64} (hd : decode cc pc = .ok (.lcmp, 1)) (K : WW D bs nL p l e R s m args below meth c Q al C cells slots (pc + 1) lv (.int (lg_cmp x y) :: st)) : WW D bs nL p l e R s m args below meth c Q al C cells slots pc lv (.long y :: .long x :: st) := fun H locs ls hw hS hl => W.lcmp X.1.1 X.1.2.1 hd (K H locs ls hw hS hl)
theorem g_dup (X : Cx D ta pl bs nL p s m args meth c cc Ts own rt) {v : Value} (hd : decode cc pc = .ok (.dup, 1)) (hc : v.category = 1) (K : WW D bs nL p l e R s m args below meth c Q al C cells slots (pc + 1) lv (v :: v :: st)) : WW D bs nL p l e R s m args below meth c Q al C cells slots pc lv (v :: st) := fun H locs ls hw hS hl => lv_dup X.1.1 X.1.2.1 hd hc (K H locs ls hw hS hl)
theorem g_dup2 (X : Cx D ta pl bs nL p s m args meth c cc Ts own rt) {v w : Value} (hd : decode cc pc = .ok (.dup2, 1)) (hc : v.category = 1) (hc2 : w.category = 1) (K : WW D bs nL p l e R s m args below meth c Q al C cells slots (pc + 1) lv (v :: w :: v :: w :: st)) : WW D bs nL p l e R s m args below meth c Q al C cells slots pc lv (v :: w :: st) := fun H locs ls hw hS hl => lv_dup2_11 X.1.1 X.1.2.1 hd hc hc2 (K H locs ls hw hS hl)
theorem g_pop (X : Cx D ta pl bs nL p s m args meth c cc Ts own rt) {v : Value} (hd : decode cc pc = .ok (.pop, 1)) (hc : v.category = 1) (K : WW D bs nL p l e R s m args below meth c Q al C cells slots (pc + 1) lv st) : WW D bs nL p l e R s m args below meth c Q al C cells slots pc lv (v :: st) := fun H locs ls hw hS hl => lv_pop X.1.1 X.1.2.1 hd hc (K H locs ls hw hS hl)
theorem g_goto (X : Cx D ta pl bs nL p s m args meth c cc Ts own rt) {off : Int} (tgt : Nat) (hd : decode cc pc = .ok (.goto off, 3)) (ht : (pc : Int) + off = (tgt : Int)) (K : WW D bs nL p l e R s m args below meth c Q al C cells slots tgt lv st) : WW D bs nL p l e R s m args below meth c Q al C cells slots pc lv st := fun H locs ls hw hS hl => lv_goto X.1.1 X.1.2.1 hd ht (K H locs ls hw hS hl)
theorem g_icmp_eq (X : Cx D ta pl bs nL p s m args meth c cc Ts own rt) {x y : Int32} {off : Int} {P : Prop} (tgt : Nat) (hd : decode cc pc = .ok (.if_icmp .eq off, 3)) (ht : (pc : Int) + off = (tgt : Int)) (hP : (x = y) ↔ P) (kt : P → WW D bs nL p l e R s m args below meth c Q al C cells slots tgt lv st) (kf : ¬ P → WW D bs nL p l e R s m args below meth c Q al C cells slots (pc + 3) lv st) : WW D bs nL p l e R s m args below meth c Q al C cells slots pc lv (.int y :: .int x :: st) := fun H locs ls hw hS hl => lv_icmp_eq X.1.1 X.1.2.1 hd ht (fun h => kt (hP.mp h) H locs ls hw hS hl) (fun h => kf (fun z => h (hP.mpr z)) H locs ls hw hS hl)
theorem g_icmp_ne (X : Cx D ta pl bs nL p s m args meth c cc Ts own rt) {x y : Int32} {off : Int} {P : Prop} (tgt : Nat) (hd : decode cc pc = .ok (.if_icmp .ne off, 3)) (ht : (pc : Int) + off = (tgt : Int)) (hP : (x = y) ↔ P) (kt : ¬ P → WW D bs nL p l e R s m args below meth c Q al C cells slots tgt lv st) (kf : P → WW D bs nL p l e R s m args below meth c Q al C cells slots (pc + 3) lv st) : WW D bs nL p l e R s m args below meth c Q al C cells slots pc lv (.int y :: .int x :: st) := fun H locs ls hw hS hl => lv_icmp_ne X.1.1 X.1.2.1 hd ht (fun h => kt (fun z => h (hP.mpr z)) H locs ls hw hS hl) (fun h => kf (hP.mp h) H locs ls hw hS hl)
theorem g_icmp_lt (X : Cx D ta pl bs nL p s m args meth c cc Ts own rt) {x y : Int32} {off : Int} {P : Prop} (tgt : Nat) (hd : decode cc pc = .ok (.if_icmp .lt off, 3)) (ht : (pc : Int) + off = (tgt : Int)) (hP : (x < y) ↔ P) (kt : P → WW D bs nL p l e R s m args below meth c Q al C cells slots tgt lv st) (kf : ¬ P → WW D bs nL p l e R s m args below meth c Q al C cells slots (pc + 3) lv st) : WW D bs nL p l e R s m args below meth c Q al C cells slots pc lv (.int y :: .int x :: st) := fun H locs ls hw hS hl => lv_icmp_lt X.1.1 X.1.2.1 hd ht (fun h => kt (hP.mp h) H locs ls hw hS hl) (fun h => kf (fun z => h (hP.mpr z)) H locs ls hw hS hl)
theorem g_icmp_ge (X : Cx D ta pl bs nL p s m args meth c cc Ts own rt) {x y : Int32} {off : Int} {P : Prop} (tgt : Nat) (hd : decode cc pc = .ok (.if_icmp .ge off, 3)) (ht : (pc : Int) + off = (tgt : Int)) (hP : (y ≤ x) ↔ P) (kt : P → WW D bs nL p l e R s m args below meth c Q al C cells slots tgt lv st) (kf : ¬ P → WW D bs nL p l e R s m args below meth c Q al C cells slots (pc + 3) lv st) : WW D bs nL p l e R s m args below meth c Q al C cells slots pc lv (.int y :: .int x :: st) := fun H locs ls hw hS hl => lv_icmp_ge X.1.1 X.1.2.1 hd ht (fun h => kt (hP.mp h) H locs ls hw hS hl) (fun h => kf (fun z => h (hP.mpr z)) H locs ls hw hS hl)
theorem g_icmp_gt (X : Cx D ta pl bs nL p s m args meth c cc Ts own rt) {x y : Int32} {off : Int} {P : Prop} (tgt : Nat) (hd : decode cc pc = .ok (.if_icmp .gt off, 3)) (ht : (pc : Int) + off = (tgt : Int)) (hP : (y < x) ↔ P) (kt : P → WW D bs nL p l e R s m args below meth c Q al C cells slots tgt lv st) (kf : ¬ P → WW D bs nL p l e R s m args below meth c Q al C cells slots (pc + 3) lv st) : WW D bs nL p l e R s m args below meth c Q al C cells slots pc lv (.int y :: .int x :: st) := fun H locs ls hw hS hl => lv_icmp_gt X.1.1 X.1.2.1 hd ht (fun h => kt (hP.mp h) H locs ls hw hS hl) (fun h => kf (fun z => h (hP.mpr z)) H locs ls hw hS hl)
theorem g_icmp_le (X : Cx D ta pl bs nL p s m args meth c cc Ts own rt) {x y : Int32} {off : Int} {P : Prop} (tgt : Nat) (hd : decode cc pc = .ok (.if_icmp .le off, 3)) (ht : (pc : Int) + off = (tgt : Int)) (hP : (x ≤ y) ↔ P) (kt : P → WW D bs nL p l e R s m args below meth c Q al C cells slots tgt lv st) (kf : ¬ P → WW D bs nL p l e R s m args below meth c Q al C cells slots (pc + 3) lv st) : WW D bs nL p l e R s m args below meth c Q al C cells slots pc lv (.int y :: .int x :: st) := fun H locs ls hw hS hl => lv_icmp_le X.1.1 X.1.2.1 hd ht (fun h => kt (hP.mp h) H locs ls hw hS hl) (fun h => kf (fun z => h (hP.mpr z)) H locs ls hw hS hl)
theorem g_if_eq (X : Cx D ta pl bs nL p s m args meth c cc Ts own rt) {x : Int32} {off : Int} {P : Prop} (tgt : Nat) (hd : decode cc pc = .ok (.ifCond .eq off, 3)) (ht : (pc : Int) + off = (tgt : Int)) (hP : (x = 0) ↔ P) (kt : P → WW D bs nL p l e R s m args below meth c Q al C cells slots tgt lv st) (kf : ¬ P → WW D bs nL p l e R s m args below meth c Q al C cells slots (pc + 3) lv st) : WW D bs nL p l e R s m args below meth c Q al C cells slots pc lv (.int x :: st) := fun H locs ls hw hS hl => lv_if_eq X.1.1 X.1.2.1 hd ht (fun h => kt (hP.mp h) H locs ls hw hS hl) (fun h => kf (fun z => h (hP.mpr z)) H locs ls hw hS hl)
theorem g_if_ne (X : Cx D ta pl bs nL p s m args meth c cc Ts own rt) {x : Int32} {off : Int} {P : Prop} (tgt : Nat) (hd : decode cc pc = .ok (.ifCond .ne off, 3)) (ht : (pc : Int) + off = (tgt : Int)) (hP : (x = 0) ↔ P) (kt : ¬ P → WW D bs nL p l e R s m args below meth c Q al C cells slots tgt lv st) (kf : P → WW D bs nL p l e R s m args below meth c Q al C cells slots (pc + 3) lv st) : WW D bs nL p l e R s m args below meth c Q al C cells slots pc lv (.int x :: st) := fun H locs ls hw hS hl => lv_if_ne X.1.1 X.1.2.1 hd ht (fun h => kt (fun z => h (hP.mpr z)) H locs ls hw hS hl) (fun h => kf (hP.mp h) H locs ls hw hS hl)
theorem g_if_lt (X : Cx D ta pl bs nL p s m args meth c cc Ts own rt) {x : Int32} {off : Int} {P : Prop} (tgt : Nat) (hd : decode cc pc = .ok (.ifCond .lt off, 3)) (ht : (pc : Int) + off = (tgt : Int)) (hP : (x < 0) ↔ P) (kt : P → WW D bs nL p l e R s m args below meth c Q al C cells slots tgt lv st) (kf : ¬ P → WW D bs nL p l e R s m args below meth c Q al C cells slots (pc + 3) lv st) : WW D bs nL p l e R s m args below meth c Q al C cells slots pc lv (.int x :: st) := fun H locs ls hw hS hl => lv_if_lt X.1.1 X.1.2.1 hd ht (fun h => kt (hP.mp h) H locs ls hw hS hl) (fun h => kf (fun z => h (hP.mpr z)) H locs ls hw hS hl)
theorem g_if_ge (X : Cx D ta pl bs nL p s m args meth c cc Ts own rt) {x : Int32} {off : Int} {P : Prop} (tgt : Nat) (hd : decode cc pc = .ok (.ifCond .ge off, 3)) (ht : (pc : Int) + off = (tgt : Int)) (hP : (0 ≤ x) ↔ P) (kt : P → WW D bs nL p l e R s m args below meth c Q al C cells slots tgt lv st) (kf : ¬ P → WW D bs nL p l e R s m args below meth c Q al C cells slots (pc + 3) lv st) : WW D bs nL p l e R s m args below meth c Q al C cells slots pc lv (.int x :: st) := fun H locs ls hw hS hl => lv_if_ge X.1.1 X.1.2.1 hd ht (fun h => kt (hP.mp h) H locs ls hw hS hl) (fun h => kf (fun z => h (hP.mpr z)) H locs ls hw hS hl)
theorem g_if_gt (X : Cx D ta pl bs nL p s m args meth c cc Ts own rt) {x : Int32} {off : Int} {P : Prop} (tgt : Nat) (hd : decode cc pc = .ok (.ifCond .gt off, 3)) (ht : (pc : Int) + off = (tgt : Int)) (hP : (0 < x) ↔ P) (kt : P → WW D bs nL p l e R s m args below meth c Q al C cells slots tgt lv st) (kf : ¬ P → WW D bs nL p l e R s m args below meth c Q al C cells slots (pc + 3) lv st) : WW D bs nL p l e R s m args below meth c Q al C cells slots pc lv (.int x :: st) := fun H locs ls hw hS hl => lv_if_gt X.1.1 X.1.2.1 hd ht (fun h => kt (hP.mp h) H locs ls hw hS hl) (fun h => kf (fun z => h (hP.mpr z)) H locs ls hw hS hl)
theorem g_if_le (X : Cx D ta pl bs nL p s m args meth c cc Ts own rt) {x : Int32} {off : Int} {P : Prop} (tgt : Nat) (hd : decode cc pc = .ok (.ifCond .le off, 3)) (ht : (pc : Int) + off = (tgt : Int)) (hP : (x ≤ 0) ↔ P) (kt : P → WW D bs nL p l e R s m args below meth c Q al C cells slots tgt lv st) (kf : ¬ P → WW D bs nL p l e R s m args below meth c Q al C cells slots (pc + 3) lv st) : WW D bs nL p l e R s m args below meth c Q al C cells slots pc lv (.int x :: st) := fun H locs ls hw hS hl => lv_if_le X.1.1 X.1.2.1 hd ht (fun h => kt (hP.mp h) H locs ls hw hS hl) (fun h => kf (fun z => h (hP.mpr z)) H locs ls hw hS hl)
theorem g_ifnull_r (X : Cx D ta pl bs nL p s m args meth c cc Ts own rt) {x : Nat} {off : Int} (hd : decode cc pc = .ok (.ifnull off, 3)) (K : WW D bs nL p l e R s m args below meth c Q al C cells slots (pc + 3) lv st) : WW D bs nL p l e R s m args below meth c Q al C cells slots pc lv (.ref x :: st) := fun H locs ls hw hS hl => lv_ifnull X.1.1 X.1.2.1 hd (K H locs ls hw hS hl)
theorem g_ifnull_n (X : Cx D ta pl bs nL p s m args meth c cc Ts own rt) {off : Int} (tgt : Nat) (hd : decode cc pc = .ok (.ifnull off, 3)) (ht : (pc : Int) + off = (tgt : Int)) (K : WW D bs nL p l e R s m args below meth c Q al C cells slots tgt lv st) : WW D bs nL p l e R s m args below meth c Q al C cells slots pc lv (.null :: st) := fun H locs ls hw hS hl => lv_ifnullN X.1.1 X.1.2.1 hd ht (K H locs ls hw hS hl)
theorem g_ifnonnull_r (X : Cx D ta pl bs nL p s m args meth c cc Ts own rt) {x : Nat} {off : Int} (tgt : Nat) (hd : decode cc pc = .ok (.ifnonnull off, 3)) (ht : (pc : Int) + off = (tgt : Int)) (K : WW D bs nL p l e R s m args below meth c Q al C cells slots tgt lv st) : WW D bs nL p l e R s m args below meth c Q al C cells slots pc lv (.ref x :: st) := fun H locs ls hw hS hl => lv_ifnonnull X.1.1 X.1.2.1 hd ht (K H locs ls hw hS hl)
theorem g_ifnonnull_n (X : Cx D ta pl bs nL p s m args meth c cc Ts own rt) {off : Int} (hd : decode cc pc = .ok (.ifnonnull off, 3)) (K : WW D bs nL p l e R s m args below meth c Q al C cells slots (pc + 3) lv st) : WW D bs nL p l e R s m args below meth c Q al C cells slots pc lv (.null :: st) := fun H locs ls hw hS hl => lv_ifnonnullN X.1.1 X.1.2.1 hd (K H locs ls hw hS hl)
theorem g_acmp_eq (X : Cx D ta pl bs nL p s m args meth c cc Ts own rt) {x y : Nat} {off : Int} {P : Prop} (tgt : Nat) (hd : decode cc pc = .ok (.if_acmp .eq off, 3)) (ht : (pc : Int) + off = (tgt : Int)) (hP : (x = y) ↔ P) (kt : P → WW D bs nL p l e R s m args below meth c Q al C cells slots tgt lv st) (kf : ¬ P → WW D bs nL p l e R s m args below meth c Q al C cells slots (pc + 3) lv st) : WW D bs nL p l e R s m args below meth c Q al C cells slots pc lv (.ref y :: .ref x :: st) := fun H locs ls hw hS hl => lv_acmp_eq (rx := some x) (ry := some y) X.1.1 X.1.2.1 hd ht (fun h => kt (hP.mp (Option.some.inj h)) H locs ls hw hS hl) (fun h => kf (fun z => h (congrArg some (hP.mpr z))) H locs ls hw hS hl)
theorem g_acmp_ne (X : Cx D ta pl bs nL p s m args meth c cc Ts own rt) {x y : Nat} {off : Int} {P : Prop} (tgt : Nat) (hd : decode cc pc = .ok (.if_acmp .ne off, 3)) (ht : (pc : Int) + off = (tgt : Int)) (hP : (x = y) ↔ P) (kt : ¬ P → WW D bs nL p l e R s m args below meth c Q al C cells slots tgt lv st) (kf : P → WW D bs nL p l e R s m args below meth c Q al C cells slots (pc + 3) lv st) : WW D bs nL p l e R s m args below meth c Q al C cells slots pc lv (.ref y :: .ref x :: st) := fun H locs ls hw hS hl => lv_acmp_ne (rx := some x) (ry := some y) X.1.1 X.1.2.1 hd ht (fun h => kt (fun z => h (congrArg some (hP.mpr z))) H locs ls hw hS hl) (fun h => kf (hP.mp (Option.some.inj h)) H locs ls hw hS hl)
theorem g_tableOut (X : Cx D ta pl bs nL p s m args meth c cc Ts own rt) {dflt lo hi : Int} {offs : Array Int} {len : Nat} {x : Int32} (tgt : Nat) (hd : decode cc pc = .ok (.tableswitch dflt lo hi offs, len)) (h : x.toInt < lo ∨ hi < x.toInt) (ht : (pc : Int) + dflt = (tgt : Int)) (K : WW D bs nL p l e R s m args below meth c Q al C cells slots tgt lv st) : WW D bs nL p l e R s m args below meth c Q al C cells slots pc lv (.int x :: st) := fun H locs ls hw hS hl => lv_tableOut X.1.1 X.1.2.1 hd h ht (K H locs ls hw hS hl)
theorem g_tableIn (X : Cx D ta pl bs nL p s m args meth c cc Ts own rt) {dflt lo hi : Int} {offs : Array Int} {len : Nat} {x : Int32} {off : Int} (tgt : Nat) (hd : decode cc pc = .ok (.tableswitch dflt lo hi offs, len)) (h1 : ¬ x.toInt < lo) (h2 : ¬ hi < x.toInt) (ho : offs[(x.toInt - lo).toNat]? = some off) (ht : (pc : Int) + off = (tgt : Int)) (K : WW D bs nL p l e R s m args below meth c Q al C cells slots tgt lv st) : WW D bs nL p l e R s m args below meth c Q al C cells slots pc lv (.int x :: st) := fun H locs ls hw hS hl => lv_tableIn X.1.1 X.1.2.1 hd h1 h2 ho ht (K H locs ls hw hS hl)
theorem g_get (X : Cx D ta pl bs nL p s m args meth c cc Ts own rt) {ref Cn : String} {T : u_T} {N ci index : Nat} (k i : Nat) {fs : List Value} (he : C k i = some (.inr (ci, fs))) (hc : vwCl[ci]? = some (Cn, T, N)) (f : Nat) (hf : f < N) (hin : ∀ w ∈ u_ws Cn T N, w ∈ Ts) (hlink : Cond.fieldLink own index ref (T f).2.1 (T f).2.2.1 ∈ Ts) (href : (T f).1 = ref) {v : Value} (hv : fs[f]? = some v) (hd : decode cc pc = .ok (.getfield index, 3)) (K : WW D bs nL p l e R s m args below meth c Q al C cells slots (pc + 3) lv (v :: st)) : WW D bs nL p l e R s m args below meth c Q al C cells slots pc lv (.ref (al k i) :: st) := fun H locs ls hw hS hl => va_get (D := D) (ci := ci) (ws := [(al k i, .inr (ci, fs))]) X.1.1 X.1.2.1 X.1.2.2.2.2 hin X.1.2.2.2.1 X.2.2.2.1 (va_P1 (hw.1 k i _ he).2) 0 rfl hc f hf (X.1.2.2.2.2 _ hlink) (fun x h => href ▸ h) hv hd (K H locs ls hw hS hl)
theorem g_put (X : Cx D ta pl bs nL p s m args meth c cc Ts own rt) {ref Cn : String} {T : u_T} {N ci index : Nat} (ty0 : Nat → FieldType) (hty : ∀ k, k < N → parseFieldDescriptor (T k).2.2.1 = some (ty0 k)) (hnm : ∀ a, a < N → ∀ b, b < N → a ≠ b → (T a).2.1 ≠ (T b).2.1) (k i : Nat) {fs : List Value} (he : C k i = some (.inr (ci, fs))) (hc : vwCl[ci]? = some (Cn, T, N)) (f : Nat) (hf : f < N) (hin : ∀ w ∈ u_ws Cn T N, w ∈ Ts) (hlink : Cond.fieldLink own index ref (T f).2.1 (T f).2.2.1 ∈ Ts) (href : (T f).1 = ref) (hfin : (T f).2.2.2 = false) {ty : FieldType} {v : Value} (hdsc : parseFieldDescriptor (T f).2.2.1 = some ty) (hn : narrow ty v = v) (hfit : fits ty v = true) (hl0 : f < fs.length) (C1 : Wo) (hC1 : wup C k i (.inr (ci, fs.set f v)) = C1) (hd : decode cc pc = .ok (.putfield index, 3)) (K : WW D bs nL p l e R s m args below meth c Q al C1 cells slots (pc + 3) lv st) : WW D bs nL p l e R s m args below meth c Q al C cells slots pc lv (v :: .ref (al k i) :: st) := by
  intro H locs ls hw hS hl
  obtain ⟨⟨hx, hb, hml, hown, hts⟩, hr, hlk, hK, hE⟩ := X
  have hap := va_apart (own := own) hts hin ty0 hty hnm hK hc
  obtain ⟨r, h1, cell, q1, q2, q3, q4⟩ := (hw.1 k i _ he).2
  have hr' : r = (Cn, T, N) := Option.some.inj (h1.symm.trans hc)
  subst hr'
  obtain ⟨hSl, hfc, kC, hkC, hkind⟩ := hK.1 ci _ hc
  obtain ⟨cf, kf, fi, f', hi, hsl⟩ := hSl f hf
  have hlay := hts _ (hin _ (u_in_lay hf))
  unfold u_lay at hlay
  rw [if_neg (by rw [hfin]; decide)] at hlay
  have hst := (u_facts hfc hkC (u_lays hts hin hf) hi).1
  have h6 := u_store hfc hkC hkind hlay hi hdsc hn hfit
  refine W.putK hx hb (f := f') ⟨hown, hts _ hlink, ⟨_, _, _, href ▸ hi⟩, hst⟩ (by rw [q2]; exact h6) q1 q3 (by rw [hsl]; exact k2_hasslot (q4 f hf)) rfl rfl hd fun H' e1 e2 e3 => ?_
  rw [hsl] at e1 ⊢
  subst hC1
  exact K H' _ ls (hw.set he ⟨_, hc, t_OB.to (V := updV (vp_V fs) f v) ⟨_, e1, q2, q3, t_set q4 hap hf v⟩ (fun j _ => vp_updV_set hl0 v j)⟩ e3) (hS.put e2 e3 (hw.1 k i _ he).1) hl
theorem g_putF (X : Cx D ta pl bs nL p s m args meth c cc Ts own rt) {ref Cn : String} {T : u_T} {N ci index : Nat} (ty0 : Nat → FieldType) (hty : ∀ k, k < N → parseFieldDescriptor (T k).2.2.1 = some (ty0 k)) (hnm : ∀ a, a < N → ∀ b, b < N → a ≠ b → (T a).2.1 ≠ (T b).2.1) (k i : Nat) {fs : List Value} (he : C k i = some (.inr (ci, fs))) (hc : vwCl[ci]? = some (Cn, T, N)) (f : Nat) (hf : f < N) (hin : ∀ w ∈ u_ws Cn T N, w ∈ Ts) (hlink : Cond.fieldLink own index ref (T f).2.1 (T f).2.2.1 ∈ Ts) (href : (T f).1 = ref) (hfin : (T f).2.2.2 = true) (hini : meth.name = "<init>") (hdecl : (T f).1 = own) {ty : FieldType} {v : Value} (hdsc : parseFieldDescriptor (T f).2.2.1 = some ty) (hn : narrow ty v = v) (hfit : fits ty v = true) (hl0 : f < fs.length) (C1 : Wo) (hC1 : wup C k i (.inr (ci, fs.set f v)) = C1) (hd : decode cc pc = .ok (.putfield index, 3)) (K : WW D bs nL p l e R s m args below meth c Q al C1 cells slots (pc + 3) lv st) : WW D bs nL p l e R s m args below meth c Q al C cells slots pc lv (v :: .ref (al k i) :: st) := by
  intro H locs ls hw hS hl
  obtain ⟨⟨hx, hb, hml, hown, hts⟩, hr, hlk, hK, hE⟩ := X
  have hap := va_apart (own := own) hts hin ty0 hty hnm hK hc
  obtain ⟨r, h1, cell, q1, q2, q3, q4⟩ := (hw.1 k i _ he).2
  have hr' : r = (Cn, T, N) := Option.some.inj (h1.symm.trans hc)
  subst hr'
  obtain ⟨hSl, hfc, kC, hkC, hkind⟩ := hK.1 ci _ hc
  obtain ⟨cf, kf, fi, f', hi, hsl⟩ := hSl f hf
  have hlay := hts _ (hin _ (u_in_lay hf))
  unfold u_lay at hlay
  rw [if_pos hfin] at hlay
  have hst := (u_facts hfc hkC (u_lays hts hin hf) hi).1
  have hcf : m.cls = cf := by
    obtain ⟨_, _, c', _, _, _, -, -, hf', -, -, -, hown2, -⟩ := Cond.laysFinal_spec hlay
    have e1 : c' = cf := by have := hi.symm.trans hf'; simp at this; exact this.1.symm
    rw [hdecl] at hown2
    rw [← e1]; exact Option.some.inj (hown.symm.trans hown2)
  have h6 := u_fits hfc hkC hkind (Or.inr hlay) hi hdsc hn hfit
  refine W.putFinK hx hb hown (hts _ hlink) (href ▸ hi) hst hcf hini (by rw [q2]; exact h6) q1 q3 (by rw [hsl]; exact k2_hasslot (q4 f hf)) rfl rfl hd fun H' e1 e2 e3 => ?_
  rw [hsl] at e1 ⊢
  subst hC1
  exact K H' _ ls (hw.set he ⟨_, hc, t_OB.to (V := updV (vp_V fs) f v) ⟨_, e1, q2, q3, t_set q4 hap hf v⟩ (fun j _ => vp_updV_set hl0 v j)⟩ e3) (hS.put e2 e3 (hw.1 k i _ he).1) hl
theorem g_iald (X : Cx D ta pl bs nL p s m args meth c cc Ts own rt) (k i : Nat) {n : Nat} {f : Nat → Int32} (he : C k i = some (.inl (ta 3, n, .inl f))) (j : Nat) (hj : j < n) (hn : n < 2 ^ 31) {v : Int32} (hv : f j = v) (hd : decode cc pc = .ok (.iaload, 1)) (K : WW D bs nL p l e R s m args below meth c Q al C cells slots (pc + 1) lv (.int v :: st)) : WW D bs nL p l e R s m args below meth c Q al C cells slots pc lv (.int (nI j) :: .ref (al k i) :: st) := fun H locs ls hw hS hl => va_iald (D := D) (ws := [(al k i, .inl (ta 3, n, .inl f))]) X.1.1 X.1.2.1 X.2.2.2.1 (va_P1 (hw.1 k i _ he).2) 0 3 rfl rfl (vp_in_nI hj hn) hd (by rw [nI_clamp (Nat.lt_trans hj hn), hv]; exact K H locs ls hw hS hl)
theorem g_zald (X : Cx D ta pl bs nL p s m args meth c cc Ts own rt) (k i : Nat) {n : Nat} {f : Nat → Int32} (he : C k i = some (.inl (ta 5, n, .inl f))) (j : Nat) (hj : j < n) (hn : n < 2 ^ 31) {v : Int32} (hv : f j = v) (hd : decode cc pc = .ok (.baload, 1)) (K : WW D bs nL p l e R s m args below meth c Q al C cells slots (pc + 1) lv (.int v :: st)) : WW D bs nL p l e R s m args below meth c Q al C cells slots pc lv (.int (nI j) :: .ref (al k i) :: st) := fun H locs ls hw hS hl => va_zald (D := D) (ws := [(al k i, .inl (ta 5, n, .inl f))]) X.1.1 X.1.2.1 X.2.2.2.1 (va_P1 (hw.1 k i _ he).2) 0 5 rfl rfl (vp_in_nI hj hn) hd (by rw [nI_clamp (Nat.lt_trans hj hn), hv]; exact K H locs ls hw hS hl)
theorem g_lald (X : Cx D ta pl bs nL p s m args meth c cc Ts own rt) (k i : Nat) {n : Nat} {f : Nat → Int64} (he : C k i = some (.inl (ta 4, n, .inr (.inl f)))) (j : Nat) (hj : j < n) (hn : n < 2 ^ 31) {v : Int64} (hv : f j = v) (hd : decode cc pc = .ok (.laload, 1)) (K : WW D bs nL p l e R s m args below meth c Q al C cells slots (pc + 1) lv (.long v :: st)) : WW D bs nL p l e R s m args below meth c Q al C cells slots pc lv (.int (nI j) :: .ref (al k i) :: st) := fun H locs ls hw hS hl => va_lald (D := D) (ws := [(al k i, .inl (ta 4, n, .inr (.inl f)))]) X.1.1 X.1.2.1 X.2.2.2.1 (va_P1 (hw.1 k i _ he).2) 0 4 rfl rfl (vp_in_nI hj hn) hd (by rw [nI_clamp (Nat.lt_trans hj hn), hv]; exact K H locs ls hw hS hl)
theorem g_aald0 (X : Cx D ta pl bs nL p s m args meth c cc Ts own rt) (k i : Nat) {n : Nat} {f : Nat → Option Nat} (he : C k i = some (.inl (ta 0, n, .inr (.inr (.inr (.inr f)))))) (j : Nat) (hj : j < n) (hn : n < 2 ^ 31) {v : Value} (hv : va_rf (f j) = v) (hd : decode cc pc = .ok (.aaload, 1)) (K : WW D bs nL p l e R s m args below meth c Q al C cells slots (pc + 1) lv (v :: st)) : WW D bs nL p l e R s m args below meth c Q al C cells slots pc lv (.int (nI j) :: .ref (al k i) :: st) := fun H locs ls hw hS hl => va_aldq (D := D) (C := RX2) (ws := [(al k i, .inl (ta 0, n, .inr (.inr (.inr (.inr f)))))]) X.1.1 X.1.2.1 X.2.2.2.1 (va_P1 (hw.1 k i _ he).2) 0 0 rfl rfl (vp_in_nI hj hn) hd (by rw [nI_clamp (Nat.lt_trans hj hn), hv]; exact K H locs ls hw hS hl)
theorem g_aald1 (X : Cx D ta pl bs nL p s m args meth c cc Ts own rt) (k i : Nat) {n : Nat} {f : Nat → Option Nat} (he : C k i = some (.inl (ta 1, n, .inr (.inr (.inr (.inr f)))))) (j : Nat) (hj : j < n) (hn : n < 2 ^ 31) {v : Value} (hv : va_rf (f j) = v) (hd : decode cc pc = .ok (.aaload, 1)) (K : WW D bs nL p l e R s m args below meth c Q al C cells slots (pc + 1) lv (v :: st)) : WW D bs nL p l e R s m args below meth c Q al C cells slots pc lv (.int (nI j) :: .ref (al k i) :: st) := fun H locs ls hw hS hl => va_aldq (D := D) (C := RX1) (ws := [(al k i, .inl (ta 1, n, .inr (.inr (.inr (.inr f)))))]) X.1.1 X.1.2.1 X.2.2.2.1 (va_P1 (hw.1 k i _ he).2) 0 1 rfl rfl (vp_in_nI hj hn) hd (by rw [nI_clamp (Nat.lt_trans hj hn), hv]; exact K H locs ls hw hS hl)
theorem g_aald2 (X : Cx D ta pl bs nL p s m args meth c cc Ts own rt) (k i : Nat) {n : Nat} {f : Nat → Option Nat} (he : C k i = some (.inl (ta 2, n, .inr (.inr (.inr (.inr f)))))) (j : Nat) (hj : j < n) (hn : n < 2 ^ 31) {v : Value} (hv : va_rf (f j) = v) (hd : decode cc pc = .ok (.aaload, 1)) (K : WW D bs nL p l e R s m args below meth c Q al C cells slots (pc + 1) lv (v :: st)) : WW D bs nL p l e R s m args below meth c Q al C cells slots pc lv (.int (nI j) :: .ref (al k i) :: st) := fun H locs ls hw hS hl => va_aldq (D := D) (C := RX0) (ws := [(al k i, .inl (ta 2, n, .inr (.inr (.inr (.inr f)))))]) X.1.1 X.1.2.1 X.2.2.2.1 (va_P1 (hw.1 k i _ he).2) 0 2 rfl rfl (vp_in_nI hj hn) hd (by rw [nI_clamp (Nat.lt_trans hj hn), hv]; exact K H locs ls hw hS hl)
theorem g_iast (X : Cx D ta pl bs nL p s m args meth c cc Ts own rt) (k i : Nat) {n : Nat} {f : Nat → Int32} {x : Int32} (he : C k i = some (.inl (ta 3, n, (.inl f)))) (j : Nat) (hj : j < n) (hn : n < 2 ^ 31) (C1 : Wo) (hC1 : wup C k i (.inl (ta 3, n, (.inl (upd f j x)))) = C1) (hd : decode cc pc = .ok (.iastore, 1)) (K : WW D bs nL p l e R s m args below meth c Q al C1 cells slots (pc + 1) lv st) : WW D bs nL p l e R s m args below meth c Q al C cells slots pc lv (.int x :: .int (nI j) :: .ref (al k i) :: st) := by
  intro H locs ls hw hS hl
  obtain ⟨⟨hx, hb, hml, hown, hts⟩, hr, hlk, hK, hE⟩ := X
  have hin := vp_in_nI hj hn
  refine W.iast hx hb (hw.1 k i _ he).2 ((hK.2 3 _ rfl).1 n (fun j => .int (f j))) (fun q => by cases q) (by show ¬ (nI j < 0 ∨ (arrV _ _ _).slots.size ≤ _); rw [arrV_size]; exact hin) rfl rfl hd fun H1 e z oq => ?_
  subst hC1
  refine K H1 _ ls (hw.set he ?_ oq) (hS.put z oq (hw.1 k i _ he).1) hl
  show H1[al k i]? = some (vp_cell _ _)
  rw [e, nI_clamp (Nat.lt_trans hj hn)]
  rw [vp_cell_i, vp_cell_i, arrV_store]
  congr 2
  funext q
  by_cases hq : q = j
  · subst hq
    simp [updV, upd]
  · simp [updV, upd, hq]
theorem g_last (X : Cx D ta pl bs nL p s m args meth c cc Ts own rt) (k i : Nat) {n : Nat} {f : Nat → Int64} {x : Int64} (he : C k i = some (.inl (ta 4, n, (.inr (.inl f))))) (j : Nat) (hj : j < n) (hn : n < 2 ^ 31) (C1 : Wo) (hC1 : wup C k i (.inl (ta 4, n, (.inr (.inl (vp_updL f j x))))) = C1) (hd : decode cc pc = .ok (.lastore, 1)) (K : WW D bs nL p l e R s m args below meth c Q al C1 cells slots (pc + 1) lv st) : WW D bs nL p l e R s m args below meth c Q al C cells slots pc lv (.long x :: .int (nI j) :: .ref (al k i) :: st) := by
  intro H locs ls hw hS hl
  obtain ⟨⟨hx, hb, hml, hown, hts⟩, hr, hlk, hK, hE⟩ := X
  have hin := vp_in_nI hj hn
  refine W.last hx hb (hw.1 k i _ he).2 ((hK.2 4 _ rfl).1 n (fun j => .long (f j))) (fun q => by cases q) (by show ¬ (nI j < 0 ∨ (arrV _ _ _).slots.size ≤ _); rw [arrV_size]; exact hin) rfl rfl hd fun H1 e z oq => ?_
  subst hC1
  refine K H1 _ ls (hw.set he ?_ oq) (hS.put z oq (hw.1 k i _ he).1) hl
  show H1[al k i]? = some (vp_cell _ _)
  rw [e, nI_clamp (Nat.lt_trans hj hn)]
  rw [vp_cell_l, vp_cell_l, arrV_store]
  congr 2
  funext q
  by_cases hq : q = j
  · subst hq
    simp [updV, vp_updL]
  · simp [updV, vp_updL, hq]
theorem g_zast (X : Cx D ta pl bs nL p s m args meth c cc Ts own rt) (k i : Nat) {n : Nat} {f : Nat → Int32} {x : Int32} (he : C k i = some (.inl (ta 5, n, .inl f))) (j : Nat) (hj : j < n) (hn : n < 2 ^ 31) (hx1 : narrow .boolean (.int x) = .int x) (C1 : Wo) (hC1 : wup C k i (.inl (ta 5, n, .inl (upd f j x))) = C1) (hd : decode cc pc = .ok (.bastore, 1)) (K : WW D bs nL p l e R s m args below meth c Q al C1 cells slots (pc + 1) lv st) : WW D bs nL p l e R s m args below meth c Q al C cells slots pc lv (.int x :: .int (nI j) :: .ref (al k i) :: st) := by
  intro H locs ls hw hS hl
  obtain ⟨⟨hx, hb, hml, hown, hts⟩, hr, hlk, hK, hE⟩ := X
  have hin := vp_in_nI hj hn
  refine W.zast hx hb (hw.1 k i _ he).2 ((hK.2 5 _ rfl).1 n (fun j => .int (f j))) (fun q => by cases q) (by show ¬ (nI j < 0 ∨ (arrV _ _ _).slots.size ≤ _); rw [arrV_size]; exact hin) rfl rfl hd fun H1 e z oq => ?_
  subst hC1
  refine K H1 _ ls (hw.set he ?_ oq) (hS.put z oq (hw.1 k i _ he).1) hl
  show H1[al k i]? = some (vp_cell _ _)
  rw [e, nI_clamp (Nat.lt_trans hj hn)]
  rw [vp_cell_i, vp_cell_i, arrV_store]
  congr 2
  funext q
  by_cases hq : q = j
  · subst hq
    simp [updV, upd]
    exact hx1
  · simp [updV, upd, hq]
theorem g_aast0 (X : Cx D ta pl bs nL p s m args meth c cc Ts own rt) (k i k2 i2 : Nat) {n : Nat} {f : Nat → Option Nat} {vs : List Value} (he : C k i = some (.inl (ta 0, n, .inr (.inr (.inr (.inr f)))))) (hv : C k2 i2 = some (.inr (3, vs))) (j : Nat) (hj : j < n) (hn : n < 2 ^ 31) (C1 : Wo) (hC1 : wup C k i (.inl (ta 0, n, .inr (.inr (.inr (.inr (va_up f j (some (al k2 i2)))))))) = C1) (hd : decode cc pc = .ok (.aastore, 1)) (K : WW D bs nL p l e R s m args below meth c Q al C1 cells slots (pc + 1) lv st) : WW D bs nL p l e R s m args below meth c Q al C cells slots pc lv (.ref (al k2 i2) :: .int (nI j) :: .ref (al k i) :: st) := by
  intro H locs ls hw hS hl
  obtain ⟨⟨hx, hb, hml, hown, hts⟩, hr, hlk, hK, hE⟩ := X
  have hin := vp_in_nI hj hn
  have hlt : (nI j).toNatClampNeg < n := by rw [nI_clamp (Nat.lt_trans hj hn)]; exact hj
  have h0 : ¬ nI j < 0 := fun q => hin (Or.inl q)
  obtain ⟨r', hr', cellV, g1, g2, g3, -⟩ := (hw.1 k2 i2 _ hv).2
  have hcls := (hK.1 3 (RX2, TX2, 8) rfl).2
  obtain ⟨kA, comp, k1, k2', k3, -⟩ := (hK.2 0 (ta 0, .object RX2) rfl).2
  have hcomp : comp = D.1 3 := Option.some.inj (k3.symm.trans hcls.1)
  subst hcomp
  obtain ⟨kC, hkC, -⟩ := hcls.2
  refine W.aast hx hb (hw.1 k i _ he).2 (fun q h => by cases h) (fun h => by cases h) k1 k2' rfl hkC ⟨h0, by show _ < (arrV _ _ _).slots.size; rw [arrV_size]; exact hlt⟩ g1 (fun q h => by rw [g3] at h; cases h) (by rw [g2]; exact hkC) (by rw [g2]; exact va_assign hcls) rfl rfl hd fun H1 e z oq => ?_
  subst hC1
  refine K H1 _ ls (hw.set he ?_ oq) (hS.put z oq (hw.1 k i _ he).1) hl
  show H1[al k i]? = some (vp_cell _ _)
  rw [e, nI_clamp (Nat.lt_trans hj hn)]
  rw [vp_cell_q, vp_cell_q, arrV_store]
  congr 2
  funext q
  by_cases hq : q = j
  · subst hq
    simp [updV, va_up, va_rf]
  · simp [updV, va_up, hq]
theorem g_aast1 (X : Cx D ta pl bs nL p s m args meth c cc Ts own rt) (k i k2 i2 : Nat) {n : Nat} {f : Nat → Option Nat} {vs : List Value} (he : C k i = some (.inl (ta 1, n, .inr (.inr (.inr (.inr f)))))) (hv : C k2 i2 = some (.inr (2, vs))) (j : Nat) (hj : j < n) (hn : n < 2 ^ 31) (C1 : Wo) (hC1 : wup C k i (.inl (ta 1, n, .inr (.inr (.inr (.inr (va_up f j (some (al k2 i2)))))))) = C1) (hd : decode cc pc = .ok (.aastore, 1)) (K : WW D bs nL p l e R s m args below meth c Q al C1 cells slots (pc + 1) lv st) : WW D bs nL p l e R s m args below meth c Q al C cells slots pc lv (.ref (al k2 i2) :: .int (nI j) :: .ref (al k i) :: st) := by
  intro H locs ls hw hS hl
  obtain ⟨⟨hx, hb, hml, hown, hts⟩, hr, hlk, hK, hE⟩ := X
  have hin := vp_in_nI hj hn
  have hlt : (nI j).toNatClampNeg < n := by rw [nI_clamp (Nat.lt_trans hj hn)]; exact hj
  have h0 : ¬ nI j < 0 := fun q => hin (Or.inl q)
  obtain ⟨r', hr', cellV, g1, g2, g3, -⟩ := (hw.1 k2 i2 _ hv).2
  have hcls := (hK.1 2 (RX1, TX1, 5) rfl).2
  obtain ⟨kA, comp, k1, k2', k3, -⟩ := (hK.2 1 (ta 1, .object RX1) rfl).2
  have hcomp : comp = D.1 2 := Option.some.inj (k3.symm.trans hcls.1)
  subst hcomp
  obtain ⟨kC, hkC, -⟩ := hcls.2
  refine W.aast hx hb (hw.1 k i _ he).2 (fun q h => by cases h) (fun h => by cases h) k1 k2' rfl hkC ⟨h0, by show _ < (arrV _ _ _).slots.size; rw [arrV_size]; exact hlt⟩ g1 (fun q h => by rw [g3] at h; cases h) (by rw [g2]; exact hkC) (by rw [g2]; exact va_assign hcls) rfl rfl hd fun H1 e z oq => ?_
  subst hC1
  refine K H1 _ ls (hw.set he ?_ oq) (hS.put z oq (hw.1 k i _ he).1) hl
  show H1[al k i]? = some (vp_cell _ _)
  rw [e, nI_clamp (Nat.lt_trans hj hn)]
  rw [vp_cell_q, vp_cell_q, arrV_store]
  congr 2
  funext q
  by_cases hq : q = j
  · subst hq
    simp [updV, va_up, va_rf]
  · simp [updV, va_up, hq]
theorem g_aast2 (X : Cx D ta pl bs nL p s m args meth c cc Ts own rt) (k i k2 i2 : Nat) {n : Nat} {f : Nat → Option Nat} {vs : List Value} (he : C k i = some (.inl (ta 2, n, .inr (.inr (.inr (.inr f)))))) (hv : C k2 i2 = some (.inr (1, vs))) (j : Nat) (hj : j < n) (hn : n < 2 ^ 31) (C1 : Wo) (hC1 : wup C k i (.inl (ta 2, n, .inr (.inr (.inr (.inr (va_up f j (some (al k2 i2)))))))) = C1) (hd : decode cc pc = .ok (.aastore, 1)) (K : WW D bs nL p l e R s m args below meth c Q al C1 cells slots (pc + 1) lv st) : WW D bs nL p l e R s m args below meth c Q al C cells slots pc lv (.ref (al k2 i2) :: .int (nI j) :: .ref (al k i) :: st) := by
  intro H locs ls hw hS hl
  obtain ⟨⟨hx, hb, hml, hown, hts⟩, hr, hlk, hK, hE⟩ := X
  have hin := vp_in_nI hj hn
  have hlt : (nI j).toNatClampNeg < n := by rw [nI_clamp (Nat.lt_trans hj hn)]; exact hj
  have h0 : ¬ nI j < 0 := fun q => hin (Or.inl q)
  obtain ⟨r', hr', cellV, g1, g2, g3, -⟩ := (hw.1 k2 i2 _ hv).2
  have hcls := (hK.1 1 (RX0, TX0, 4) rfl).2
  obtain ⟨kA, comp, k1, k2', k3, -⟩ := (hK.2 2 (ta 2, .object RX0) rfl).2
  have hcomp : comp = D.1 1 := Option.some.inj (k3.symm.trans hcls.1)
  subst hcomp
  obtain ⟨kC, hkC, -⟩ := hcls.2
  refine W.aast hx hb (hw.1 k i _ he).2 (fun q h => by cases h) (fun h => by cases h) k1 k2' rfl hkC ⟨h0, by show _ < (arrV _ _ _).slots.size; rw [arrV_size]; exact hlt⟩ g1 (fun q h => by rw [g3] at h; cases h) (by rw [g2]; exact hkC) (by rw [g2]; exact va_assign hcls) rfl rfl hd fun H1 e z oq => ?_
  subst hC1
  refine K H1 _ ls (hw.set he ?_ oq) (hS.put z oq (hw.1 k i _ he).1) hl
  show H1[al k i]? = some (vp_cell _ _)
  rw [e, nI_clamp (Nat.lt_trans hj hn)]
  rw [vp_cell_q, vp_cell_q, arrV_store]
  congr 2
  funext q
  by_cases hq : q = j
  · subst hq
    simp [updV, va_up, va_rf]
  · simp [updV, va_up, hq]
theorem g_aastN (X : Cx D ta pl bs nL p s m args meth c cc Ts own rt) (k i : Nat) {n : Nat} {f : Nat → Option Nat} (he : C k i = some (.inl (ta 0, n, .inr (.inr (.inr (.inr f)))))) (j : Nat) (hj : j < n) (hn : n < 2 ^ 31) (C1 : Wo) (hC1 : wup C k i (.inl (ta 0, n, .inr (.inr (.inr (.inr (va_up f j none)))))) = C1) (hd : decode cc pc = .ok (.aastore, 1)) (K : WW D bs nL p l e R s m args below meth c Q al C1 cells slots (pc + 1) lv st) : WW D bs nL p l e R s m args below meth c Q al C cells slots pc lv (.null :: .int (nI j) :: .ref (al k i) :: st) := by
  intro H locs ls hw hS hl
  obtain ⟨⟨hx, hb, hml, hown, hts⟩, hr, hlk, hK, hE⟩ := X
  have hin := vp_in_nI hj hn
  refine va_WaastN (C := RX2) hx hb (hw.1 k i _ he).2 ((hK.2 0 _ rfl).1 n (fun j => va_rf (f j))) (fun h => by cases h) (by show ¬ (nI j < 0 ∨ (arrV _ _ _).slots.size ≤ _); rw [arrV_size]; exact hin) rfl rfl hd fun H1 e z oq => ?_
  subst hC1
  refine K H1 _ ls (hw.set he ?_ oq) (hS.put z oq (hw.1 k i _ he).1) hl
  show H1[al k i]? = some (vp_cell _ _)
  rw [e, nI_clamp (Nat.lt_trans hj hn)]
  rw [vp_cell_q, vp_cell_q, arrV_store]
  congr 2
  funext q
  by_cases hq : q = j
  · subst hq
    simp [updV, va_up, va_rf]
  · simp [updV, va_up, hq]
theorem g_new (X : Cx D ta pl bs nL p s m args meth c cc Ts own rt) {Cn : String} {T : u_T} {N ci index : Nat} (k i : Nat) (hno : C k i = none) (ty : Nat → FieldType) (hty : ∀ k, k < N → parseFieldDescriptor (T k).2.2.1 = some (ty k)) (hc : vwCl[ci]? = some (Cn, T, N)) (hin : ∀ w ∈ u_ws Cn T N, w ∈ Ts) (hcl : Cond.classLink own index Cn ∈ Ts) (hinst : Cond.instantiable Cn N ∈ Ts) (hini : Cond.initialized Cn ∈ Ts) (fs : List Value) (hfs : ∀ j, j < N → defaultValue (ty j) = vp_V fs j) (hcells : cells + 1 ≤ R.cells) (hslots : slots + N ≤ R.slots) (hd : decode cc pc = .ok (.new index, 3)) (K : ∀ q : Nat, WW D bs nL p l e R s m args below meth c Q (aup al k i q) (wup C k i (.inr (ci, fs))) (cells + 1) (slots + N) (pc + 3) lv (.ref (aup al k i q k i) :: st)) : WW D bs nL p l e R s m args below meth c Q al C cells slots pc lv st := by
  intro H locs ls hw hS hl
  obtain ⟨⟨hx, hb, hml, hown, hts⟩, hr, hlk, hK, hE⟩ := X
  have hKn := hK.1 ci _ hc
  refine W.newcK hx hb hown (hts _ hcl) (hts _ hinst) (hts _ hini) rfl hd hcells hslots hKn.2.1 rfl fun H1 kC hkC e1 z1 o1 => ?_
  have K1 := K H.size
  rw [aup_self] at K1
  refine K1 H1 locs ls (hw.new (Nat.le_trans hE.1 hS.1) hno ⟨_, hc, (u_born ty hts hin hKn hkC e1 hty).to hfs⟩ o1) ⟨Nat.le_trans hS.1 (by omega), fun x h1 h2 => (o1 x (Nat.lt_of_lt_of_le h1 hS.1)).trans (hS.2.1 x h1 h2), hS.2.2⟩ hl
theorem g_newi (X : Cx D ta pl bs nL p s m args meth c cc Ts own rt) (k i : Nat) (hno : C k i = none) (harr : Cond.arrayClass .int ∈ Ts) (n : Nat) (hn : n < 65536) (hcells : cells + 1 ≤ R.cells) (hslots : slots + n ≤ R.slots) (hd : decode cc pc = .ok (.newarray .int, 2)) (K : ∀ q : Nat, WW D bs nL p l e R s m args below meth c Q (aup al k i q) (wup C k i (.inl (ta 3, n, .inl (fun _ => 0)))) (cells + 1) (slots + n) (pc + 2) lv (.ref (aup al k i q k i) :: st)) : WW D bs nL p l e R s m args below meth c Q al C cells slots pc lv (.int (nI n) :: st) := by
  intro H locs ls hw hS hl
  obtain ⟨⟨hx, hb, hml, hown, hts⟩, hr, hlk, hK, hE⟩ := X
  have hn31 : n < 2 ^ 31 := by omega
  refine va_newaK (atype := .int) (N := n) hx hb (hts _ harr) rfl hd rfl (nI_pos hn31) (nI_clamp hn31) (by show n * _ ≤ _; first | (show n * 4 ≤ _; omega) | (show n * 8 ≤ _; omega) | (show n * 1 ≤ _; omega)) hcells hslots rfl fun H1 cA e1 z1 o1 hAr hNm => ?_
  have hcA : cA = ta 3 := Option.some.inj (hNm.symm.trans (hK.2 3 (ta 3, .int) rfl).2)
  subst hcA
  have K1 := K H.size
  rw [aup_self] at K1
  refine K1 H1 locs ls (hw.new (Nat.le_trans hE.1 hS.1) hno ?_ o1) ⟨Nat.le_trans hS.1 (by omega), fun x h1 h2 => (o1 x (Nat.lt_of_lt_of_le h1 hS.1)).trans (hS.2.1 x h1 h2), hS.2.2⟩ hl
  show H1[H.size]? = some (vp_cell _ _)
  rw [vp_cell_i]
  exact e1
theorem g_newl (X : Cx D ta pl bs nL p s m args meth c cc Ts own rt) (k i : Nat) (hno : C k i = none) (harr : Cond.arrayClass .long ∈ Ts) (n : Nat) (hn : n < 65536) (hcells : cells + 1 ≤ R.cells) (hslots : slots + n ≤ R.slots) (hd : decode cc pc = .ok (.newarray .long, 2)) (K : ∀ q : Nat, WW D bs nL p l e R s m args below meth c Q (aup al k i q) (wup C k i (.inl (ta 4, n, .inr (.inl (fun _ => 0))))) (cells + 1) (slots + n) (pc + 2) lv (.ref (aup al k i q k i) :: st)) : WW D bs nL p l e R s m args below meth c Q al C cells slots pc lv (.int (nI n) :: st) := by
  intro H locs ls hw hS hl
  obtain ⟨⟨hx, hb, hml, hown, hts⟩, hr, hlk, hK, hE⟩ := X
  have hn31 : n < 2 ^ 31 := by omega
  refine va_newaK (atype := .long) (N := n) hx hb (hts _ harr) rfl hd rfl (nI_pos hn31) (nI_clamp hn31) (by show n * _ ≤ _; first | (show n * 4 ≤ _; omega) | (show n * 8 ≤ _; omega) | (show n * 1 ≤ _; omega)) hcells hslots rfl fun H1 cA e1 z1 o1 hAr hNm => ?_
  have hcA : cA = ta 4 := Option.some.inj (hNm.symm.trans (hK.2 4 (ta 4, .long) rfl).2)
  subst hcA
  have K1 := K H.size
  rw [aup_self] at K1
  refine K1 H1 locs ls (hw.new (Nat.le_trans hE.1 hS.1) hno ?_ o1) ⟨Nat.le_trans hS.1 (by omega), fun x h1 h2 => (o1 x (Nat.lt_of_lt_of_le h1 hS.1)).trans (hS.2.1 x h1 h2), hS.2.2⟩ hl
  show H1[H.size]? = some (vp_cell _ _)
  rw [vp_cell_l]
  exact e1
theorem g_newz (X : Cx D ta pl bs nL p s m args meth c cc Ts own rt) (k i : Nat) (hno : C k i = none) (harr : Cond.arrayClass .boolean ∈ Ts) (n : Nat) (hn : n < 65536) (hcells : cells + 1 ≤ R.cells) (hslots : slots + n ≤ R.slots) (hd : decode cc pc = .ok (.newarray .boolean, 2)) (K : ∀ q : Nat, WW D bs nL p l e R s m args below meth c Q (aup al k i q) (wup C k i (.inl (ta 5, n, .inl (fun _ => 0)))) (cells + 1) (slots + n) (pc + 2) lv (.ref (aup al k i q k i) :: st)) : WW D bs nL p l e R s m args below meth c Q al C cells slots pc lv (.int (nI n) :: st) := by
  intro H locs ls hw hS hl
  obtain ⟨⟨hx, hb, hml, hown, hts⟩, hr, hlk, hK, hE⟩ := X
  have hn31 : n < 2 ^ 31 := by omega
  refine va_newaK (atype := .boolean) (N := n) hx hb (hts _ harr) rfl hd rfl (nI_pos hn31) (nI_clamp hn31) (by show n * _ ≤ _; first | (show n * 4 ≤ _; omega) | (show n * 8 ≤ _; omega) | (show n * 1 ≤ _; omega)) hcells hslots rfl fun H1 cA e1 z1 o1 hAr hNm => ?_
  have hcA : cA = ta 5 := Option.some.inj (hNm.symm.trans (hK.2 5 (ta 5, .boolean) rfl).2)
  subst hcA
  have K1 := K H.size
  rw [aup_self] at K1
  refine K1 H1 locs ls (hw.new (Nat.le_trans hE.1 hS.1) hno ?_ o1) ⟨Nat.le_trans hS.1 (by omega), fun x h1 h2 => (o1 x (Nat.lt_of_lt_of_le h1 hS.1)).trans (hS.2.1 x h1 h2), hS.2.2⟩ hl
  show H1[H.size]? = some (vp_cell _ _)
  rw [vp_cell_i]
  exact e1
theorem g_newq0 (X : Cx D ta pl bs nL p s m args meth c cc Ts own rt) {index : Nat} (k i : Nat) (hno : C k i = none) (hcl : Cond.classLink own index RX2 ∈ Ts) (n : Nat) (hn : n < 65536) (hcells : cells + 1 ≤ R.cells) (hslots : slots + n ≤ R.slots) (hd : decode cc pc = .ok (.anewarray index, 3)) (K : ∀ q : Nat, WW D bs nL p l e R s m args below meth c Q (aup al k i q) (wup C k i (.inl (ta 0, n, .inr (.inr (.inr (.inr (fun _ => none))))))) (cells + 1) (slots + n) (pc + 3) lv (.ref (aup al k i q k i) :: st)) : WW D bs nL p l e R s m args below meth c Q al C cells slots pc lv (.int (nI n) :: st) := by
  intro H locs ls hw hS hl
  obtain ⟨⟨hx, hb, hml, hown, hts⟩, hr, hlk, hK, hE⟩ := X
  have hn31 : n < 2 ^ 31 := by omega
  have hcl31 : (nI n).toNatClampNeg = n := nI_clamp hn31
  refine W.anew hx hb hown (hts _ hcl) (va_AO.use hE.2.2.2.1) rfl hd rfl (nI_pos hn31) (by rw [hcl31]; omega) hcells (by rw [hcl31]; exact hslots) fun cA kA comp f1 f2 f3 f4 => ?_
  rw [hcl31]
  have hcA : cA = ta 0 := by
    obtain ⟨_, _, _, _, _, h4⟩ := (hK.2 0 (ta 0, .object RX2) rfl).2
    exact Option.some.inj (f1.symm.trans h4)
  subst hcA
  generalize hH1 : H.push ({ cls := ta 0, slots := Array.replicate n .null, vm := .none } : Cell) = H1
  have z1 : H1.size = H.size + 1 := by rw [← hH1, Array.size_push]
  have e1 : H1[H.size]? = some (arrV (ta 0) n (fun _ => .null)) := by rw [← hH1, Array.getElem?_push_size, ← arrV_new]
  have o1 : ∀ q : Nat, q < H.size → H1[q]? = H[q]? := fun q hq => by rw [← hH1, Array.getElem?_push, if_neg (Nat.ne_of_lt hq)]
  have K1 := K H.size
  rw [aup_self] at K1
  refine K1 H1 locs ls (hw.new (Nat.le_trans hE.1 hS.1) hno ?_ o1) ⟨Nat.le_trans hS.1 (by omega), fun x h1 h2 => (o1 x (Nat.lt_of_lt_of_le h1 hS.1)).trans (hS.2.1 x h1 h2), hS.2.2⟩ hl
  show H1[H.size]? = some (vp_cell _ _)
  rw [vp_cell_q]
  exact e1
theorem g_newq1 (X : Cx D ta pl bs nL p s m args meth c cc Ts own rt) {index : Nat} (k i : Nat) (hno : C k i = none) (hcl : Cond.classLink own index RX1 ∈ Ts) (n : Nat) (hn : n < 65536) (hcells : cells + 1 ≤ R.cells) (hslots : slots + n ≤ R.slots) (hd : decode cc pc = .ok (.anewarray index, 3)) (K : ∀ q : Nat, WW D bs nL p l e R s m args below meth c Q (aup al k i q) (wup C k i (.inl (ta 1, n, .inr (.inr (.inr (.inr (fun _ => none))))))) (cells + 1) (slots + n) (pc + 3) lv (.ref (aup al k i q k i) :: st)) : WW D bs nL p l e R s m args below meth c Q al C cells slots pc lv (.int (nI n) :: st) := by
  intro H locs ls hw hS hl
  obtain ⟨⟨hx, hb, hml, hown, hts⟩, hr, hlk, hK, hE⟩ := X
  have hn31 : n < 2 ^ 31 := by omega
  have hcl31 : (nI n).toNatClampNeg = n := nI_clamp hn31
  refine W.anew hx hb hown (hts _ hcl) (va_AO.use hE.2.2.2.2.1) rfl hd rfl (nI_pos hn31) (by rw [hcl31]; omega) hcells (by rw [hcl31]; exact hslots) fun cA kA comp f1 f2 f3 f4 => ?_
  rw [hcl31]
  have hcA : cA = ta 1 := by
    obtain ⟨_, _, _, _, _, h4⟩ := (hK.2 1 (ta 1, .object RX1) rfl).2
    exact Option.some.inj (f1.symm.trans h4)
  subst hcA
  generalize hH1 : H.push ({ cls := ta 1, slots := Array.replicate n .null, vm := .none } : Cell) = H1
  have z1 : H1.size = H.size + 1 := by rw [← hH1, Array.size_push]
  have e1 : H1[H.size]? = some (arrV (ta 1) n (fun _ => .null)) := by rw [← hH1, Array.getElem?_push_size, ← arrV_new]
  have o1 : ∀ q : Nat, q < H.size → H1[q]? = H[q]? := fun q hq => by rw [← hH1, Array.getElem?_push, if_neg (Nat.ne_of_lt hq)]
  have K1 := K H.size
  rw [aup_self] at K1
  refine K1 H1 locs ls (hw.new (Nat.le_trans hE.1 hS.1) hno ?_ o1) ⟨Nat.le_trans hS.1 (by omega), fun x h1 h2 => (o1 x (Nat.lt_of_lt_of_le h1 hS.1)).trans (hS.2.1 x h1 h2), hS.2.2⟩ hl
  show H1[H.size]? = some (vp_cell _ _)
  rw [vp_cell_q]
  exact e1
theorem g_newq2 (X : Cx D ta pl bs nL p s m args meth c cc Ts own rt) {index : Nat} (k i : Nat) (hno : C k i = none) (hcl : Cond.classLink own index RX0 ∈ Ts) (n : Nat) (hn : n < 65536) (hcells : cells + 1 ≤ R.cells) (hslots : slots + n ≤ R.slots) (hd : decode cc pc = .ok (.anewarray index, 3)) (K : ∀ q : Nat, WW D bs nL p l e R s m args below meth c Q (aup al k i q) (wup C k i (.inl (ta 2, n, .inr (.inr (.inr (.inr (fun _ => none))))))) (cells + 1) (slots + n) (pc + 3) lv (.ref (aup al k i q k i) :: st)) : WW D bs nL p l e R s m args below meth c Q al C cells slots pc lv (.int (nI n) :: st) := by
  intro H locs ls hw hS hl
  obtain ⟨⟨hx, hb, hml, hown, hts⟩, hr, hlk, hK, hE⟩ := X
  have hn31 : n < 2 ^ 31 := by omega
  have hcl31 : (nI n).toNatClampNeg = n := nI_clamp hn31
  refine W.anew hx hb hown (hts _ hcl) (va_AO.use hE.2.2.2.2.2) rfl hd rfl (nI_pos hn31) (by rw [hcl31]; omega) hcells (by rw [hcl31]; exact hslots) fun cA kA comp f1 f2 f3 f4 => ?_
  rw [hcl31]
  have hcA : cA = ta 2 := by
    obtain ⟨_, _, _, _, _, h4⟩ := (hK.2 2 (ta 2, .object RX0) rfl).2
    exact Option.some.inj (f1.symm.trans h4)
  subst hcA
  generalize hH1 : H.push ({ cls := ta 2, slots := Array.replicate n .null, vm := .none } : Cell) = H1
  have z1 : H1.size = H.size + 1 := by rw [← hH1, Array.size_push]
  have e1 : H1[H.size]? = some (arrV (ta 2) n (fun _ => .null)) := by rw [← hH1, Array.getElem?_push_size, ← arrV_new]
  have o1 : ∀ q : Nat, q < H.size → H1[q]? = H[q]? := fun q hq => by rw [← hH1, Array.getElem?_push, if_neg (Nat.ne_of_lt hq)]
  have K1 := K H.size
  rw [aup_self] at K1
  refine K1 H1 locs ls (hw.new (Nat.le_trans hE.1 hS.1) hno ?_ o1) ⟨Nat.le_trans hS.1 (by omega), fun x h1 h2 => (o1 x (Nat.lt_of_lt_of_le h1 hS.1)).trans (hS.2.1 x h1 h2), hS.2.2⟩ hl
  show H1[H.size]? = some (vp_cell _ _)
  rw [vp_cell_q]
  exact e1
theorem g_place (X : Cx D ta pl bs nL p s m args meth c cc Ts own rt) {index : Nat} (j : Nat) (hj : j < 4) (nm : String) (hnm : plN j = nm) (hlink : Cond.fieldLink own index RX3 nm "LLoopSorter$Place;" ∈ Ts) (hd : decode cc pc = .ok (.getstatic index, 3)) (K : WW D bs nL p l e R s m args below meth c Q al C cells slots (pc + 3) lv (.ref (pl j) :: st)) : WW D bs nL p l e R s m args below meth c Q al C cells slots pc lv st := fun H locs ls hw hS hl => va_gets X.1.1 X.1.2.1 (X.2.2.2.2.2.1 j hj) hS X.1.2.2.2.1 (by rw [hnm]; exact X.1.2.2.2.2 _ hlink) (fun _ h => h) hd (K H locs ls hw hS hl)
theorem g_objInit (X : Cx D ta pl bs nL p s m args meth c cc Ts own rt) {idx : Nat} {a : Nat} (h1 : Cond.methodLink own idx Lib.objectInit ∈ Ts) (h2 : Cond.instanceMethod Lib.objectInit ∈ Ts) (h3 : Cond.code Lib.objectInit ⟨#[0xb1]⟩ 1 none ∈ Ts) (hd : decode cc pc = .ok (.invokespecial idx, 3)) (hf : 1 ≤ R.frames) (hlo : (st.map fun v => v.category).sum + 12 ≤ R.locals) (K : WW D bs nL p l e R s m args below meth c Q al C cells slots (pc + 3) lv st) : WW D bs nL p l e R s m args below meth c Q al C cells slots pc lv (.ref a :: st) := fun H locs ls hw hS hl => W.objInit (g := F0 m pc ls (.ref a :: st)) X.1.1 X.1.2.1 X.1.2.2.2.1 (X.1.2.2.2.2 _ h1) (X.1.2.2.2.2 _ h2) (X.1.2.2.2.2 _ h3) rfl (by rw [X.1.2.2.1]; exact hl.1) rfl hd hf (by show 2 * 0 + _ + 12 ≤ _; omega) (K H locs ls hw hS hl)
/-- behind a call -/
theorem g_run {y : MethodName} {ws : List Cond} {rm : Room} {mc ms : Nat} {av : List Value} {post : Option Value → Ad → Wo → Prop} {H : Heap} {locs : List Loc} {ls : Array Slot} {st0 rest : List Value} (hE : En D ta pl bs s)
    (hr : va_Run p l e R s m args below meth c H locs cells slots mc ms (F0 m pc ls st0) rest (fun s0 oc t => (∃ (rv : Option Value) (al' : Ad) (C' : Wo), oc = .returned rv ∧ post rv al' C' ∧ wd D bs al' C' t.heap) ∧ va_F (fr bs) s0 t) (fr bs)) (hS : va_S (fr bs) s.heap H locs) (hl : lv_has ls nL lv)
    (K : ∀ (rv : Option Value) (al' : Ad) (C' : Wo), post rv al' C' → WW D bs nL p l e R s m args below meth c Q al' C' (cells + mc) (slots + ms) (pc + 3) lv (rv.toList ++ rest)) : W p l e R s m args below meth c H locs cells slots Q (F0 m pc ls st0) := by
  intro T hT X
  obtain ⟨v, st₀, t, T', L, h0, X', hL, e1, e2, ⟨⟨rv, al', C', hv, hp, hwd⟩, hz, hk⟩, st⟩ := hr T hT X
  cases hv
  rw [h0] at hz hk
  obtain ⟨t2, a1, b1⟩ := K v al' C' hp T'.heap (locs ++ L) ls (by rw [e1]; exact hwd)
    ⟨Nat.le_trans hS.1 (by rw [e1]; exact hz), fun q h1 h2 => by rw [e1, hk q (Nat.lt_of_lt_of_le h1 hS.1) h2]; exact hS.2.1 q h1 h2, fun q hq => by
      rcases List.mem_append.mp hq with h | h
      · exact hS.2.2 q h
      · exact hL q h⟩ hl T' rfl X'
  exact ⟨t2, st t2 a1, b1⟩
theorem g_blind {av : List Value} : FrameBlind (va_Pc av (fun U => wd D bs al C U.heap ∧ En D ta pl bs U)) := fun a U g mk q => by
  obtain ⟨q0, qw, qE⟩ := q
  exact ⟨q0, qw, qE.moved (U := U.calling g mk a) (Vm.Alike.refl U.vm) va_S.rf⟩
theorem g_callV (X : Cx D ta pl bs nL p s m args meth c cc Ts own rt) {Cn : String} {T : u_T} {N ci index : Nat} {y : MethodName} {bytes : ByteArray} {maxL n : Nat} {rt' : Option FieldType} {ws ws' : List Cond} {rm : Room} {mc ms : Nat} {post : Option Value → Ad → Wo → Prop} (k i : Nat) {fs : List Value} (As : List Value) (he : C k i = some (.inr (ci, fs))) (hc : vwCl[ci]? = some (Cn, T, N)) (hM : GM l D ta pl bs y ws rm mc ms (.ref (al k i) :: As) al C post) (hG : GoodIn Ts (wsV own index Cn y ws)) (hw0 : ws = Cond.code y bytes maxL rt' :: ws') (hrc : rm.cells = mc) (hrs : rm.slots = ms) (hy : y.cls = Cn ∧ y.cls ≠ "java/lang/invoke/MethodHandle" ∧ y.cls ≠ "java/lang/invoke/VarHandle" ∧ (parseMethodDescriptor y.desc).map (fun d => d.parameters.length) = some n) (hR : rm.frames + 1 ≤ R.frames ∧ 8 + (maxL + 11) + rm.locals ≤ R.locals) (hn : As.length = n) (hro : (st.map fun v => v.category).sum ≤ 8) (hd : decode cc pc = .ok (.invokevirtual index, 3)) (hf : cells + mc ≤ R.cells ∧ slots + ms ≤ R.slots) (stk : List Value) (hstk : stk = As.reverse ++ .ref (al k i) :: st)
    (K : ∀ (rv : Option Value) (al' : Ad) (C' : Wo), post rv al' C' → WW D bs nL p l e R s m args below meth c Q al' C' (cells + mc) (slots + ms) (pc + 3) lv (rv.toList ++ st)) : WW D bs nL p l e R s m args below meth c Q al C cells slots pc lv stk := by
  intro H locs ls hw hS hl
  subst hstk
  refine g_run (y := y) (ws := ws) (rm := rm) (av := .ref (al k i) :: As) X.2.2.2 (va_runV (As := As) (rest := st) X.1 hM (cwV n X.1.2.2.2.2 hG hw0 hrc hrs hy hR) ⟨g_blind, va_recv (q0 := 0) X.2.2.2.1 (va_P1 (hw.1 k i _ he).2) hc rfl, fun U hU hW => ⟨rfl, by rw [hU]; exact hw, X.2.2.2.moved hW.alike (by rw [hU]; exact hS)⟩⟩ rfl hn hl.1 rfl (lv_room hro) hd hf) hS hl K
theorem g_callS (X : Cx D ta pl bs nL p s m args meth c cc Ts own rt) {index : Nat} {y : MethodName} {bytes : ByteArray} {maxL n : Nat} {rt' : Option FieldType} {ws ws' : List Cond} {rm : Room} {mc ms : Nat} {post : Option Value → Ad → Wo → Prop} (As : List Value) (hM : GM l D ta pl bs y ws rm mc ms As al C post) (hG : GoodIn Ts (wsS own index y ws)) (hw0 : ws = Cond.code y bytes maxL rt' :: ws') (hrc : rm.cells = mc) (hrs : rm.slots = ms) (hy : y.cls = own ∧ y.cls ≠ "java/lang/invoke/MethodHandle" ∧ y.cls ≠ "java/lang/invoke/VarHandle" ∧ (parseMethodDescriptor y.desc).map (fun d => d.parameters.length) = some n) (hR : rm.frames + 1 ≤ R.frames ∧ 8 + (maxL + 11) + rm.locals ≤ R.locals) (hn : As.length = n) (hro : (st.map fun v => v.category).sum ≤ 8) (hd : decode cc pc = .ok (.invokestatic index, 3)) (hf : cells + mc ≤ R.cells ∧ slots + ms ≤ R.slots) (stk : List Value) (hstk : stk = As.reverse ++ st)
    (K : ∀ (rv : Option Value) (al' : Ad) (C' : Wo), post rv al' C' → WW D bs nL p l e R s m args below meth c Q al' C' (cells + mc) (slots + ms) (pc + 3) lv (rv.toList ++ st)) : WW D bs nL p l e R s m args below meth c Q al C cells slots pc lv stk := by
  intro H locs ls hw hS hl
  subst hstk
  refine g_run (y := y) (ws := ws) (rm := rm) (av := As) X.2.2.2 (va_runS (As := As) (rest := st) X.1 hM (cwS n X.1.2.2.2.2 hG hw0 hrc hrs hy hR) ⟨g_blind, fun U hU hW => ⟨rfl, by rw [hU]; exact hw, X.2.2.2.moved hW.alike (by rw [hU]; exact hS)⟩⟩ rfl hn hl.1 rfl (lv_room hro) hd hf) hS hl K
theorem g_callI (X : Cx D ta pl bs nL p s m args meth c cc Ts own rt) {index : Nat} {y : MethodName} {bytes : ByteArray} {maxL n : Nat} {ws ws' : List Cond} {rm : Room} {mc ms : Nat} {post : Option Value → Ad → Wo → Prop} (a : Nat) (As : List Value) (hM : GM l D ta pl bs y ws rm mc ms (.ref a :: As) al C post) (hG : GoodIn Ts ws) (hw0 : ws = Cond.code y bytes maxL none :: ws') (hrc : rm.cells = mc) (hrs : rm.slots = ms) (hini : Cond.initialized y.cls ∈ Ts) (hlk : Cond.methodLink own index y ∈ Ts) (hin : Cond.instanceMethod y ∈ Ts) (hy1 : y.name = "<init>") (hy : y.cls ≠ "java/lang/invoke/MethodHandle" ∧ y.cls ≠ "java/lang/invoke/VarHandle" ∧ (parseMethodDescriptor y.desc).map (fun d => d.parameters.length) = some n) (hR : rm.frames + 1 ≤ R.frames ∧ 8 + (maxL + 11) + rm.locals ≤ R.locals) (hn : As.length = n) (hro : (st.map fun v => v.category).sum ≤ 8) (hd : decode cc pc = .ok (.invokespecial index, 3)) (hf : cells + mc ≤ R.cells ∧ slots + ms ≤ R.slots) (stk : List Value) (hstk : stk = As.reverse ++ .ref a :: st)
    (K : ∀ (rv : Option Value) (al' : Ad) (C' : Wo), post rv al' C' → WW D bs nL p l e R s m args below meth c Q al' C' (cells + mc) (slots + ms) (pc + 3) lv (rv.toList ++ st)) : WW D bs nL p l e R s m args below meth c Q al C cells slots pc lv stk := by
  intro H locs ls hw hS hl
  subst hstk
  refine g_run (y := y) (ws := ws) (rm := rm) (av := .ref a :: As) X.2.2.2 (va_runI (As := As) (rest := st) X.1 hM (cwI n X.1.2.2.2.2 hG hw0 hrc hrs (X.1.2.2.2.2 _ hini) (X.1.2.2.2.2 _ hlk) (X.1.2.2.2.2 _ hin) hy1 hy hR) ⟨g_blind, fun U hU hW => ⟨rfl, by rw [hU]; exact hw, X.2.2.2.moved hW.alike (by rw [hU]; exact hS)⟩⟩ rfl hn hl.1 rfl (lv_room hro) hd hf) hS hl K
theorem g_callDV (X : Cx D ta pl bs nL p s m args meth c cc Ts own rt) {Cn : String} {T : u_T} {N ci index : Nat} {y : MethodName} {bytes : ByteArray} {maxL n : Nat} {rt' : Option FieldType} {ws ws' : List Cond} {rm : Room} {rv : Option Value} {C1 : Wo} (k i : Nat) {fs : List Value} (As : List Value) (he : C k i = some (.inr (ci, fs))) (hc : vwCl[ci]? = some (Cn, T, N)) (hM : GD l D ta pl bs y ws rm (.ref (al k i) :: As) al C rv C1) (hG : GoodIn Ts (wsV own index Cn y ws)) (hw0 : ws = Cond.code y bytes maxL rt' :: ws') (hrm : rm.cells = 0 ∧ rm.slots = 0) (hy : y.cls = Cn ∧ y.cls ≠ "java/lang/invoke/MethodHandle" ∧ y.cls ≠ "java/lang/invoke/VarHandle" ∧ (parseMethodDescriptor y.desc).map (fun d => d.parameters.length) = some n) (hR : rm.frames + 1 ≤ R.frames ∧ 8 + (maxL + 11) + rm.locals ≤ R.locals) (hn : As.length = n) (hro : (st.map fun v => v.category).sum ≤ 8) (hd : decode cc pc = .ok (.invokevirtual index, 3)) (hf : cells ≤ R.cells ∧ slots ≤ R.slots) (stk : List Value) (hstk : stk = As.reverse ++ .ref (al k i) :: st) (K : WW D bs nL p l e R s m args below meth c Q al C1 cells slots (pc + 3) lv (rv.toList ++ st)) : WW D bs nL p l e R s m args below meth c Q al C cells slots pc lv stk :=
  g_callV X k i As he hc hM hG hw0 hrm.1 hrm.2 hy hR hn hro hd hf stk hstk (fun r al' C' h => by obtain ⟨rfl, rfl, rfl⟩ := h; exact K)
theorem g_callDS (X : Cx D ta pl bs nL p s m args meth c cc Ts own rt) {index : Nat} {y : MethodName} {bytes : ByteArray} {maxL n : Nat} {rt' : Option FieldType} {ws ws' : List Cond} {rm : Room} {rv : Option Value} {C1 : Wo} (As : List Value) (hM : GD l D ta pl bs y ws rm As al C rv C1) (hG : GoodIn Ts (wsS own index y ws)) (hw0 : ws = Cond.code y bytes maxL rt' :: ws') (hrm : rm.cells = 0 ∧ rm.slots = 0) (hy : y.cls = own ∧ y.cls ≠ "java/lang/invoke/MethodHandle" ∧ y.cls ≠ "java/lang/invoke/VarHandle" ∧ (parseMethodDescriptor y.desc).map (fun d => d.parameters.length) = some n) (hR : rm.frames + 1 ≤ R.frames ∧ 8 + (maxL + 11) + rm.locals ≤ R.locals) (hn : As.length = n) (hro : (st.map fun v => v.category).sum ≤ 8) (hd : decode cc pc = .ok (.invokestatic index, 3)) (hf : cells ≤ R.cells ∧ slots ≤ R.slots) (stk : List Value) (hstk : stk = As.reverse ++ st) (K : WW D bs nL p l e R s m args below meth c Q al C1 cells slots (pc + 3) lv (rv.toList ++ st)) : WW D bs nL p l e R s m args below meth c Q al C cells slots pc lv stk :=
  g_callS X As hM hG hw0 hrm.1 hrm.2 hy hR hn hro hd hf stk hstk (fun r al' C' h => by obtain ⟨rfl, rfl, rfl⟩ := h; exact K)
theorem g_callDV1 (X : Cx D ta pl bs nL p s m args meth c cc Ts own rt) {Cn : String} {T : u_T} {N ci index : Nat} {y : MethodName} {bytes : ByteArray} {maxL n : Nat} {rt' : Option FieldType} {ws ws' : List Cond} {rm : Room} {v : Value} {C1 : Wo} (k i : Nat) {fs : List Value} (As : List Value) (he : C k i = some (.inr (ci, fs))) (hc : vwCl[ci]? = some (Cn, T, N)) (hM : GD l D ta pl bs y ws rm (.ref (al k i) :: As) al C (some v) C1) (hG : GoodIn Ts (wsV own index Cn y ws)) (hw0 : ws = Cond.code y bytes maxL rt' :: ws') (hrm : rm.cells = 0 ∧ rm.slots = 0) (hy : y.cls = Cn ∧ y.cls ≠ "java/lang/invoke/MethodHandle" ∧ y.cls ≠ "java/lang/invoke/VarHandle" ∧ (parseMethodDescriptor y.desc).map (fun d => d.parameters.length) = some n) (hR : rm.frames + 1 ≤ R.frames ∧ 8 + (maxL + 11) + rm.locals ≤ R.locals) (hn : As.length = n) (hro : (st.map fun v => v.category).sum ≤ 8) (hd : decode cc pc = .ok (.invokevirtual index, 3)) (hf : cells ≤ R.cells ∧ slots ≤ R.slots) (stk : List Value) (hstk : stk = As.reverse ++ .ref (al k i) :: st) (K : WW D bs nL p l e R s m args below meth c Q al C1 cells slots (pc + 3) lv (v :: st)) : WW D bs nL p l e R s m args below meth c Q al C cells slots pc lv stk :=
  g_callDV X k i As he hc hM hG hw0 hrm hy hR hn hro hd hf stk hstk K
theorem g_callDV0 (X : Cx D ta pl bs nL p s m args meth c cc Ts own rt) {Cn : String} {T : u_T} {N ci index : Nat} {y : MethodName} {bytes : ByteArray} {maxL n : Nat} {rt' : Option FieldType} {ws ws' : List Cond} {rm : Room} {C1 : Wo} (k i : Nat) {fs : List Value} (As : List Value) (he : C k i = some (.inr (ci, fs))) (hc : vwCl[ci]? = some (Cn, T, N)) (hM : GD l D ta pl bs y ws rm (.ref (al k i) :: As) al C none C1) (hG : GoodIn Ts (wsV own index Cn y ws)) (hw0 : ws = Cond.code y bytes maxL rt' :: ws') (hrm : rm.cells = 0 ∧ rm.slots = 0) (hy : y.cls = Cn ∧ y.cls ≠ "java/lang/invoke/MethodHandle" ∧ y.cls ≠ "java/lang/invoke/VarHandle" ∧ (parseMethodDescriptor y.desc).map (fun d => d.parameters.length) = some n) (hR : rm.frames + 1 ≤ R.frames ∧ 8 + (maxL + 11) + rm.locals ≤ R.locals) (hn : As.length = n) (hro : (st.map fun v => v.category).sum ≤ 8) (hd : decode cc pc = .ok (.invokevirtual index, 3)) (hf : cells ≤ R.cells ∧ slots ≤ R.slots) (stk : List Value) (hstk : stk = As.reverse ++ .ref (al k i) :: st) (K : WW D bs nL p l e R s m args below meth c Q al C1 cells slots (pc + 3) lv st) : WW D bs nL p l e R s m args below meth c Q al C cells slots pc lv stk :=
  g_callDV X k i As he hc hM hG hw0 hrm hy hR hn hro hd hf stk hstk K
theorem g_callDS1 (X : Cx D ta pl bs nL p s m args meth c cc Ts own rt) {index : Nat} {y : MethodName} {bytes : ByteArray} {maxL n : Nat} {rt' : Option FieldType} {ws ws' : List Cond} {rm : Room} {v : Value} {C1 : Wo} (As : List Value) (hM : GD l D ta pl bs y ws rm As al C (some v) C1) (hG : GoodIn Ts (wsS own index y ws)) (hw0 : ws = Cond.code y bytes maxL rt' :: ws') (hrm : rm.cells = 0 ∧ rm.slots = 0) (hy : y.cls = own ∧ y.cls ≠ "java/lang/invoke/MethodHandle" ∧ y.cls ≠ "java/lang/invoke/VarHandle" ∧ (parseMethodDescriptor y.desc).map (fun d => d.parameters.length) = some n) (hR : rm.frames + 1 ≤ R.frames ∧ 8 + (maxL + 11) + rm.locals ≤ R.locals) (hn : As.length = n) (hro : (st.map fun v => v.category).sum ≤ 8) (hd : decode cc pc = .ok (.invokestatic index, 3)) (hf : cells ≤ R.cells ∧ slots ≤ R.slots) (stk : List Value) (hstk : stk = As.reverse ++ st) (K : WW D bs nL p l e R s m args below meth c Q al C1 cells slots (pc + 3) lv (v :: st)) : WW D bs nL p l e R s m args below meth c Q al C cells slots pc lv stk :=
  g_callDS X As hM hG hw0 hrm hy hR hn hro hd hf stk hstk K
theorem g_callDS0 (X : Cx D ta pl bs nL p s m args meth c cc Ts own rt) {index : Nat} {y : MethodName} {bytes : ByteArray} {maxL n : Nat} {rt' : Option FieldType} {ws ws' : List Cond} {rm : Room} {C1 : Wo} (As : List Value) (hM : GD l D ta pl bs y ws rm As al C none C1) (hG : GoodIn Ts (wsS own index y ws)) (hw0 : ws = Cond.code y bytes maxL rt' :: ws') (hrm : rm.cells = 0 ∧ rm.slots = 0) (hy : y.cls = own ∧ y.cls ≠ "java/lang/invoke/MethodHandle" ∧ y.cls ≠ "java/lang/invoke/VarHandle" ∧ (parseMethodDescriptor y.desc).map (fun d => d.parameters.length) = some n) (hR : rm.frames + 1 ≤ R.frames ∧ 8 + (maxL + 11) + rm.locals ≤ R.locals) (hn : As.length = n) (hro : (st.map fun v => v.category).sum ≤ 8) (hd : decode cc pc = .ok (.invokestatic index, 3)) (hf : cells ≤ R.cells ∧ slots ≤ R.slots) (stk : List Value) (hstk : stk = As.reverse ++ st) (K : WW D bs nL p l e R s m args below meth c Q al C1 cells slots (pc + 3) lv st) : WW D bs nL p l e R s m args below meth c Q al C cells slots pc lv stk :=
  g_callDS X As hM hG hw0 hrm hy hR hn hro hd hf stk hstk K
theorem g_iret (X : Cx D ta pl bs nL p s m args meth c cc Ts own rt) {v : Int32} {post : Option Value → Ad → Wo → Prop} (hr : rt = some .int) (hd : decode cc pc = .ok (.ireturn, 1)) (hp : post (some (.int v)) al C) : WW D bs nL p l e R s m args below meth c (QQ D bs below args s cells slots post) al C cells slots pc lv [.int v] :=
  fun H locs ls hw hS hl => W.iret X.1.1 X.1.2.1 (X.2.1.trans hr) (fun t ht _ => ⟨⟨_, al, C, rfl, hp, by rw [ht]; exact hw⟩, hS.F ht⟩) hS.2.2 hd X.2.2.1
theorem g_lret (X : Cx D ta pl bs nL p s m args meth c cc Ts own rt) {v : Int64} {post : Option Value → Ad → Wo → Prop} (hr : rt = some .long) (hd : decode cc pc = .ok (.lreturn, 1)) (hp : post (some (.long v)) al C) : WW D bs nL p l e R s m args below meth c (QQ D bs below args s cells slots post) al C cells slots pc lv [.long v] :=
  fun H locs ls hw hS hl => W.lret X.1.1 X.1.2.1 (X.2.1.trans hr) (fun t ht _ => ⟨⟨_, al, C, rfl, hp, by rw [ht]; exact hw⟩, hS.F ht⟩) hS.2.2 hd X.2.2.1
theorem g_zret (X : Cx D ta pl bs nL p s m args meth c cc Ts own rt) {v : Int32} {post : Option Value → Ad → Wo → Prop} (hr : rt = some .boolean) (hd : decode cc pc = .ok (.ireturn, 1)) (hn : narrow .boolean (.int v) = .int v) (hp : post (some (.int v)) al C) : WW D bs nL p l e R s m args below meth c (QQ D bs below args s cells slots post) al C cells slots pc lv [.int v] :=
  fun H locs ls hw hS hl => W.zret X.1.1 X.1.2.1 (X.2.1.trans hr) hn (fun t ht _ => ⟨⟨_, al, C, rfl, hp, by rw [ht]; exact hw⟩, hS.F ht⟩) hS.2.2 hd X.2.2.1
theorem g_vret (X : Cx D ta pl bs nL p s m args meth c cc Ts own rt) {post : Option Value → Ad → Wo → Prop} (hr : rt = none) (hd : decode cc pc = .ok (.return_, 1)) (hp : post none al C) : WW D bs nL p l e R s m args below meth c (QQ D bs below args s cells slots post) al C cells slots pc lv [] :=
  fun H locs ls hw hS hl => W.vret X.1.1 X.1.2.1 (X.2.1.trans hr) (fun t ht _ => ⟨⟨_, al, C, rfl, hp, by rw [ht]; exact hw⟩, hS.F ht⟩) hS.2.2 hd X.2.2.1
theorem g_aret (X : Cx D ta pl bs nL p s m args meth c cc Ts own rt) {v : Value} {ty : FieldType} {post : Option Value → Ad → Wo → Prop} (hr : rt = some ty) (hrt : ∃ n, ty = .object n) (hv : v = .null ∨ ∃ a, v = .ref a) (hd : decode cc pc = .ok (.areturn, 1)) (hp : post (some v) al C) : WW D bs nL p l e R s m args below meth c (QQ D bs below args s cells slots post) al C cells slots pc lv [v] :=
  fun H locs ls hw hS hl => W.aret X.1.1 X.1.2.1 (X.2.1.trans hr) (Or.inl hrt) hv (fun t ht _ => ⟨⟨_, al, C, rfl, hp, by rw [ht]; exact hw⟩, hS.F ht⟩) hS.2.2 hd X.2.2.1
theorem g_widen {k n : Nat} (h1 : cells ≤ k) (h2 : slots ≤ n) (K : WW D bs nL p l e R s m args below meth c Q al C k n pc lv st) : WW D bs nL p l e R s m args below meth c Q al C cells slots pc lv st := fun H locs ls hw hS hl => W.widen h1 h2 (K H locs ls hw hS hl)
theorem g_lv {lv' : List (Nat × Value)} (ks : List Nat) (h : lv_pick lv ks = lv') (K : WW D bs nL p l e R s m args below meth c Q al C cells slots pc lv' st) : WW D bs nL p l e R s m args below meth c Q al C cells slots pc lv st := fun H locs ls hw hS hl => K H locs ls hw hS (lv_sub hl ks h)
theorem g_wo {C1 : Wo} (h : C = C1) (K : WW D bs nL p l e R s m args below meth c Q al C1 cells slots pc lv st) : WW D bs nL p l e R s m args below meth c Q al C cells slots pc lv st := h ▸ K
end GB
def bN (P : Prop) [Decidable P] : Nat := if P then 1 else 0
theorem bN_eq0 {P : Prop} [Decidable P] : nI (bN P) = 0 ↔ ¬ P := by
  unfold bN; by_cases h : P
  · simp [h, show ¬ nI 1 = 0 by decide]
  · simp [h, show nI 0 = 0 by decide]
theorem bN_nar {P : Prop} [Decidable P] : narrow .boolean (.int (nI (bN P))) = .int (nI (bN P)) := by
  unfold bN; by_cases h : P
  · simp only [h, if_true]; decide
  · simp only [h, if_false]; decide
theorem n0_eq {a : Nat} (h : a < 2 ^ 31) : nI a = 0 ↔ a = 0 := by
  rw [← nI_0, nI_eq h (by decide)]
theorem n0_lt {a : Nat} (h : a < 2 ^ 31) : nI a < 0 ↔ False := ⟨fun q => nI_pos h q, False.elim⟩
theorem n0_ge {a : Nat} (h : a < 2 ^ 31) : 0 ≤ nI a ↔ True := ⟨fun _ => trivial, fun _ => nI_pos' h⟩
theorem n0_le {a : Nat} (h : a < 2 ^ 31) : nI a ≤ 0 ↔ a = 0 := by
  rw [← nI_0, nI_leI h (by decide)]; omega
theorem n0_gt {a : Nat} (h : a < 2 ^ 31) : 0 < nI a ↔ 0 < a := by
  rw [← nI_0, nI_ltI (by decide) h]
end
section
/-! THE STATE: u f i is a number; the class' cells (kinds 0 .. 9) are read off u, the model's (kinds 10 .. 25) off v -/
abbrev St : Type := Nat → Nat → Nat
def st (u : St) (f i x : Nat) : St := fun f' i' => if f' = f ∧ i' = i then x else u f' i'
theorem st_self {u : St} {f i x : Nat} : st u f i x f i = x := by simp [st]
theorem st_nf {u : St} {f i x f' i' : Nat} (h : f' ≠ f) : st u f i x f' i' = u f' i' := by simp [st, h]
theorem st_ni {u : St} {f i x i' : Nat} (h : i' ≠ i) : st u f i x f i' = u f i' := by simp [st, h]
def rI (al : Ad) (n : Nat) : Option Nat := if n = 0 then none else some (al 9 n)
theorem rI_0 {al : Ad} : rI al 0 = none := rfl
theorem rI_pos {al : Ad} {n : Nat} (h : n ≠ 0) : rI al n = some (al 9 n) := if_neg h
theorem rI_v0 {al : Ad} {n : Nat} (h : n = 0) : va_rf (rI al n) = .null := by subst h; rfl
theorem rI_vp {al : Ad} {n : Nat} (h : n ≠ 0) : va_rf (rI al n) = .ref (al 9 n) := by rw [rI_pos h]; rfl
def cC (ta : Nat → ClassId) (pl : Nat → Nat) (al : Ad) (u : St) : Wo := fun k i => match k with
  | 0 => if i = 0 then some (.inr (4, [.int (nI (u 0 0)), .int (nI (u 1 0)), .ref (al 1 0), .ref (al 2 0), .ref (al 5 0), .ref (al 7 0), .ref (al 8 0), .int (nI (u 2 0)), .int (nI (u 3 0)), .int (nI (u 4 0)), .int (nI (u 5 0)), .int (nI (u 6 0)), .int (nI (u 7 0))])) else none
  | 1 => if i = 0 then some (.inl (ta 0, u 0 0, .inr (.inr (.inr (.inr (fun j => rI al (u 8 j))))))) else none
  | 2 => if i = 0 then some (.inl (ta 1, 4, .inr (.inr (.inr (.inr (fun j => if j < 4 then some (al 3 (j + 1)) else none)))))) else none
  | 3 => if 1 ≤ i ∧ i ≤ 4 then some (.inr (2, [.int (nI ((i - 1) * u 0 0 / 4)), .ref (al 4 i), .int (nI (u 12 i)), .long (lN (u 13 i)), .int (nI (u 14 i))])) else none
  | 4 => if 1 ≤ i ∧ i ≤ 4 then some (.inl (ta 0, 8, .inr (.inr (.inr (.inr (fun j => rI al (u (40 + i) j))))))) else none
  | 5 => if i = 0 then some (.inl (ta 2, 16, .inr (.inr (.inr (.inr (fun j => if j < 16 then some (al 6 j) else none)))))) else none
  | 6 => if i < 16 then some (.inr (1, [.int (nI ((i * u 0 0 + u 0 0 / 2) / 16)), .int (nI (bN (i = 15))), .int (nI (u 18 i)), .int (nI (u 19 i))])) else none
  | 7 => if i = 0 then some (.inl (ta 0, 400, .inr (.inr (.inr (.inr (fun j => rI al (u 9 j))))))) else none
  | 8 => if i = 0 then some (.inl (ta 0, 400, .inr (.inr (.inr (.inr (fun j => rI al (u 10 j))))))) else none
  | 9 => if 1 ≤ i ∧ i ≤ u 30 0 then some (.inr (3, [.int (nI i), .int (nI (u 21 i)), .int (nI (u 22 i)), .ref (pl (u 23 i)), .int (nI (u 24 i)), .int (nI (u 25 i)), .int (nI (u 26 i)), .int (nI (u 27 i))])) else none
  | _ => none
def cM (ta : Nat → ClassId) (al : Ad) (v : St) : Wo := fun k i => match k with
  | 10 => if i = 0 then some (.inr (5, [.int (nI (v 0 0)), .int (nI (v 1 0)), .int (nI (v 2 0)), .ref (al 11 0), .ref (al 12 0), .int (nI (v 3 0)), .int (nI (v 4 0)), .int (nI (v 5 0)), .ref (al 13 0), .ref (al 14 0), .ref (al 15 0), .ref (al 16 0), .ref (al 17 0), .ref (al 18 0), .ref (al 19 0), .ref (al 20 0), .ref (al 21 0), .int (nI (v 6 0)), .ref (al 22 0), .ref (al 23 0), .ref (al 24 0), .ref (al 25 0)])) else none
  | 11 => if i = 0 then some (.inl (ta 3, 200, .inl (fun j => nI (v 11 j)))) else none
  | 12 => if i = 0 then some (.inl (ta 3, 200, .inl (fun j => nI (v 12 j)))) else none
  | 13 => if i = 0 then some (.inl (ta 3, 401, .inl (fun j => nI (v 13 j)))) else none
  | 14 => if i = 0 then some (.inl (ta 3, 401, .inl (fun j => nI (v 14 j)))) else none
  | 15 => if i = 0 then some (.inl (ta 3, 401, .inl (fun j => nI (v 15 j)))) else none
  | 16 => if i = 0 then some (.inl (ta 3, 401, .inl (fun j => nI (v 16 j)))) else none
  | 17 => if i = 0 then some (.inl (ta 3, 401, .inl (fun j => nI (v 17 j)))) else none
  | 18 => if i = 0 then some (.inl (ta 3, 401, .inl (fun j => nI (v 18 j)))) else none
  | 19 => if i = 0 then some (.inl (ta 4, 4, .inr (.inl (fun j => lN (v 19 j))))) else none
  | 20 => if i = 0 then some (.inl (ta 3, 16, .inl (fun j => nI (v 20 j)))) else none
  | 21 => if i = 0 then some (.inl (ta 5, 16, .inl (fun j => nI (v 21 j)))) else none
  | 22 => if i = 0 then some (.inl (ta 3, 400, .inl (fun j => nI (v 22 j)))) else none
  | 23 => if i = 0 then some (.inl (ta 3, 400, .inl (fun j => nI (v 23 j)))) else none
  | 24 => if i = 0 then some (.inl (ta 3, 400, .inl (fun j => nI (v 24 j)))) else none
  | 25 => if i = 0 then some (.inl (ta 5, 4, .inl (fun j => nI (v 25 j)))) else none
  | _ => none
/-- the class' cells, and Z beside them -/
def mC (Z : Wo) (ta : Nat → ClassId) (pl : Nat → Nat) (al : Ad) (u : St) : Wo := fun k i => if k < 10 then cC ta pl al u k i else Z k i
/-- the model's cells, and Z beside them -/
def mM (Z : Wo) (ta : Nat → ClassId) (al : Ad) (v : St) : Wo := fun k i => if 10 ≤ k ∧ k < 26 then cM ta al v k i else Z k i
section GS
variable {Z : Wo} {ta : Nat → ClassId} {pl : Nat → Nat} {al : Ad} {u v : St}
theorem cx0 : mC Z ta pl al u 0 0 = some (.inr (4, [.int (nI (u 0 0)), .int (nI (u 1 0)), .ref (al 1 0), .ref (al 2 0), .ref (al 5 0), .ref (al 7 0), .ref (al 8 0), .int (nI (u 2 0)), .int (nI (u 3 0)), .int (nI (u 4 0)), .int (nI (u 5 0)), .int (nI (u 6 0)), .int (nI (u 7 0))])) := rfl
theorem cx1 : mC Z ta pl al u 1 0 = some (.inl (ta 0, u 0 0, .inr (.inr (.inr (.inr (fun j => rI al (u 8 j))))))) := rfl
theorem cx2 : mC Z ta pl al u 2 0 = some (.inl (ta 1, 4, .inr (.inr (.inr (.inr (fun j => if j < 4 then some (al 3 (j + 1)) else none)))))) := rfl
theorem cx3 {i : Nat} (h : 1 ≤ i ∧ i ≤ 4) : mC Z ta pl al u 3 i = some (.inr (2, [.int (nI ((i - 1) * u 0 0 / 4)), .ref (al 4 i), .int (nI (u 12 i)), .long (lN (u 13 i)), .int (nI (u 14 i))])) := by
  show (if 1 ≤ i ∧ i ≤ 4 then some _ else none) = _
  rw [if_pos h]
theorem cx4 {i : Nat} (h : 1 ≤ i ∧ i ≤ 4) : mC Z ta pl al u 4 i = some (.inl (ta 0, 8, .inr (.inr (.inr (.inr (fun j => rI al (u (40 + i) j))))))) := by
  show (if 1 ≤ i ∧ i ≤ 4 then some _ else none) = _
  rw [if_pos h]
theorem cx5 : mC Z ta pl al u 5 0 = some (.inl (ta 2, 16, .inr (.inr (.inr (.inr (fun j => if j < 16 then some (al 6 j) else none)))))) := rfl
theorem cx6 {i : Nat} (h : i < 16) : mC Z ta pl al u 6 i = some (.inr (1, [.int (nI ((i * u 0 0 + u 0 0 / 2) / 16)), .int (nI (bN (i = 15))), .int (nI (u 18 i)), .int (nI (u 19 i))])) := by
  show (if i < 16 then some _ else none) = _
  rw [if_pos h]
theorem cx7 : mC Z ta pl al u 7 0 = some (.inl (ta 0, 400, .inr (.inr (.inr (.inr (fun j => rI al (u 9 j))))))) := rfl
theorem cx8 : mC Z ta pl al u 8 0 = some (.inl (ta 0, 400, .inr (.inr (.inr (.inr (fun j => rI al (u 10 j))))))) := rfl
theorem cx9 {i : Nat} (h : 1 ≤ i ∧ i ≤ u 30 0) : mC Z ta pl al u 9 i = some (.inr (3, [.int (nI i), .int (nI (u 21 i)), .int (nI (u 22 i)), .ref (pl (u 23 i)), .int (nI (u 24 i)), .int (nI (u 25 i)), .int (nI (u 26 i)), .int (nI (u 27 i))])) := by
  show (if 1 ≤ i ∧ i ≤ u 30 0 then some _ else none) = _
  rw [if_pos h]
theorem cm10 : mM Z ta al v 10 0 = some (.inr (5, [.int (nI (v 0 0)), .int (nI (v 1 0)), .int (nI (v 2 0)), .ref (al 11 0), .ref (al 12 0), .int (nI (v 3 0)), .int (nI (v 4 0)), .int (nI (v 5 0)), .ref (al 13 0), .ref (al 14 0), .ref (al 15 0), .ref (al 16 0), .ref (al 17 0), .ref (al 18 0), .ref (al 19 0), .ref (al 20 0), .ref (al 21 0), .int (nI (v 6 0)), .ref (al 22 0), .ref (al 23 0), .ref (al 24 0), .ref (al 25 0)])) := rfl
theorem cm11 : mM Z ta al v 11 0 = some (.inl (ta 3, 200, .inl (fun j => nI (v 11 j)))) := rfl
theorem cm12 : mM Z ta al v 12 0 = some (.inl (ta 3, 200, .inl (fun j => nI (v 12 j)))) := rfl
theorem cm13 : mM Z ta al v 13 0 = some (.inl (ta 3, 401, .inl (fun j => nI (v 13 j)))) := rfl
theorem cm14 : mM Z ta al v 14 0 = some (.inl (ta 3, 401, .inl (fun j => nI (v 14 j)))) := rfl
theorem cm15 : mM Z ta al v 15 0 = some (.inl (ta 3, 401, .inl (fun j => nI (v 15 j)))) := rfl
theorem cm16 : mM Z ta al v 16 0 = some (.inl (ta 3, 401, .inl (fun j => nI (v 16 j)))) := rfl
theorem cm17 : mM Z ta al v 17 0 = some (.inl (ta 3, 401, .inl (fun j => nI (v 17 j)))) := rfl
theorem cm18 : mM Z ta al v 18 0 = some (.inl (ta 3, 401, .inl (fun j => nI (v 18 j)))) := rfl
theorem cm19 : mM Z ta al v 19 0 = some (.inl (ta 4, 4, .inr (.inl (fun j => lN (v 19 j))))) := rfl
theorem cm20 : mM Z ta al v 20 0 = some (.inl (ta 3, 16, .inl (fun j => nI (v 20 j)))) := rfl
theorem cm21 : mM Z ta al v 21 0 = some (.inl (ta 5, 16, .inl (fun j => nI (v 21 j)))) := rfl
theorem cm22 : mM Z ta al v 22 0 = some (.inl (ta 3, 400, .inl (fun j => nI (v 22 j)))) := rfl
theorem cm23 : mM Z ta al v 23 0 = some (.inl (ta 3, 400, .inl (fun j => nI (v 23 j)))) := rfl
theorem cm24 : mM Z ta al v 24 0 = some (.inl (ta 3, 400, .inl (fun j => nI (v 24 j)))) := rfl
theorem cm25 : mM Z ta al v 25 0 = some (.inl (ta 5, 4, .inl (fun j => nI (v 25 j)))) := rfl
theorem up_itemCount {x : Nat} : wup (mC Z ta pl al u) 0 0 (.inr (4, [.int (nI (u 0 0)), .int (nI (u 1 0)), .ref (al 1 0), .ref (al 2 0), .ref (al 5 0), .ref (al 7 0), .ref (al 8 0), .int (nI x), .int (nI (u 3 0)), .int (nI (u 4 0)), .int (nI (u 5 0)), .int (nI (u 6 0)), .int (nI (u 7 0))])) = mC Z ta pl al (st u 2 0 x) := by
  funext k' i'
  by_cases hk : k' = 0 ∧ i' = 0
  · obtain ⟨rfl, rfl⟩ := hk
    rw [wup_self]
    simp_all [mC, cC, st]
  · rw [wup_ne hk]
    rcases (show k' = 0 ∨ k' = 1 ∨ k' = 2 ∨ k' = 3 ∨ k' = 4 ∨ k' = 5 ∨ k' = 6 ∨ k' = 7 ∨ k' = 8 ∨ k' = 9 ∨ 10 ≤ k' by omega) with rfl | rfl | rfl | rfl | rfl | rfl | rfl | rfl | rfl | rfl | h10
    · have hi : i' ≠ 0 := fun z => hk ⟨rfl, z⟩
      simp [mC, cC, hi]
    · simp [mC, cC, st]
    · simp [mC, cC, st]
    · simp [mC, cC, st]
    · simp [mC, cC, st, show ¬ 40 + i' = 2 by omega]
    · simp [mC, cC, st]
    · simp [mC, cC, st]
    · simp [mC, cC, st]
    · simp [mC, cC, st]
    · simp [mC, cC, st]
    · simp [mC, show ¬ k' < 10 by omega]
theorem up_goneCount {x : Nat} : wup (mC Z ta pl al u) 0 0 (.inr (4, [.int (nI (u 0 0)), .int (nI (u 1 0)), .ref (al 1 0), .ref (al 2 0), .ref (al 5 0), .ref (al 7 0), .ref (al 8 0), .int (nI (u 2 0)), .int (nI x), .int (nI (u 4 0)), .int (nI (u 5 0)), .int (nI (u 6 0)), .int (nI (u 7 0))])) = mC Z ta pl al (st u 3 0 x) := by
  funext k' i'
  by_cases hk : k' = 0 ∧ i' = 0
  · obtain ⟨rfl, rfl⟩ := hk
    rw [wup_self]
    simp_all [mC, cC, st]
  · rw [wup_ne hk]
    rcases (show k' = 0 ∨ k' = 1 ∨ k' = 2 ∨ k' = 3 ∨ k' = 4 ∨ k' = 5 ∨ k' = 6 ∨ k' = 7 ∨ k' = 8 ∨ k' = 9 ∨ 10 ≤ k' by omega) with rfl | rfl | rfl | rfl | rfl | rfl | rfl | rfl | rfl | rfl | h10
    · have hi : i' ≠ 0 := fun z => hk ⟨rfl, z⟩
      simp [mC, cC, hi]
    · simp [mC, cC, st]
    · simp [mC, cC, st]
    · simp [mC, cC, st]
    · simp [mC, cC, st, show ¬ 40 + i' = 3 by omega]
    · simp [mC, cC, st]
    · simp [mC, cC, st]
    · simp [mC, cC, st]
    · simp [mC, cC, st]
    · simp [mC, cC, st]
    · simp [mC, show ¬ k' < 10 by omega]
theorem up_carriedCount {x : Nat} : wup (mC Z ta pl al u) 0 0 (.inr (4, [.int (nI (u 0 0)), .int (nI (u 1 0)), .ref (al 1 0), .ref (al 2 0), .ref (al 5 0), .ref (al 7 0), .ref (al 8 0), .int (nI (u 2 0)), .int (nI (u 3 0)), .int (nI x), .int (nI (u 5 0)), .int (nI (u 6 0)), .int (nI (u 7 0))])) = mC Z ta pl al (st u 4 0 x) := by
  funext k' i'
  by_cases hk : k' = 0 ∧ i' = 0
  · obtain ⟨rfl, rfl⟩ := hk
    rw [wup_self]
    simp_all [mC, cC, st]
  · rw [wup_ne hk]
    rcases (show k' = 0 ∨ k' = 1 ∨ k' = 2 ∨ k' = 3 ∨ k' = 4 ∨ k' = 5 ∨ k' = 6 ∨ k' = 7 ∨ k' = 8 ∨ k' = 9 ∨ 10 ≤ k' by omega) with rfl | rfl | rfl | rfl | rfl | rfl | rfl | rfl | rfl | rfl | h10
    · have hi : i' ≠ 0 := fun z => hk ⟨rfl, z⟩
      simp [mC, cC, hi]
    · simp [mC, cC, st]
    · simp [mC, cC, st]
    · simp [mC, cC, st]
    · simp [mC, cC, st, show ¬ 40 + i' = 4 by omega]
    · simp [mC, cC, st]
    · simp [mC, cC, st]
    · simp [mC, cC, st]
    · simp [mC, cC, st]
    · simp [mC, cC, st]
    · simp [mC, show ¬ k' < 10 by omega]
theorem up_movesPerStep {x : Nat} : wup (mC Z ta pl al u) 0 0 (.inr (4, [.int (nI (u 0 0)), .int (nI (u 1 0)), .ref (al 1 0), .ref (al 2 0), .ref (al 5 0), .ref (al 7 0), .ref (al 8 0), .int (nI (u 2 0)), .int (nI (u 3 0)), .int (nI (u 4 0)), .int (nI x), .int (nI (u 6 0)), .int (nI (u 7 0))])) = mC Z ta pl al (st u 5 0 x) := by
  funext k' i'
  by_cases hk : k' = 0 ∧ i' = 0
  · obtain ⟨rfl, rfl⟩ := hk
    rw [wup_self]
    simp_all [mC, cC, st]
  · rw [wup_ne hk]
    rcases (show k' = 0 ∨ k' = 1 ∨ k' = 2 ∨ k' = 3 ∨ k' = 4 ∨ k' = 5 ∨ k' = 6 ∨ k' = 7 ∨ k' = 8 ∨ k' = 9 ∨ 10 ≤ k' by omega) with rfl | rfl | rfl | rfl | rfl | rfl | rfl | rfl | rfl | rfl | h10
    · have hi : i' ≠ 0 := fun z => hk ⟨rfl, z⟩
      simp [mC, cC, hi]
    · simp [mC, cC, st]
    · simp [mC, cC, st]
    · simp [mC, cC, st]
    · simp [mC, cC, st, show ¬ 40 + i' = 5 by omega]
    · simp [mC, cC, st]
    · simp [mC, cC, st]
    · simp [mC, cC, st]
    · simp [mC, cC, st]
    · simp [mC, cC, st]
    · simp [mC, show ¬ k' < 10 by omega]
theorem up_time {x : Nat} : wup (mC Z ta pl al u) 0 0 (.inr (4, [.int (nI (u 0 0)), .int (nI (u 1 0)), .ref (al 1 0), .ref (al 2 0), .ref (al 5 0), .ref (al 7 0), .ref (al 8 0), .int (nI (u 2 0)), .int (nI (u 3 0)), .int (nI (u 4 0)), .int (nI (u 5 0)), .int (nI x), .int (nI (u 7 0))])) = mC Z ta pl al (st u 6 0 x) := by
  funext k' i'
  by_cases hk : k' = 0 ∧ i' = 0
  · obtain ⟨rfl, rfl⟩ := hk
    rw [wup_self]
    simp_all [mC, cC, st]
  · rw [wup_ne hk]
    rcases (show k' = 0 ∨ k' = 1 ∨ k' = 2 ∨ k' = 3 ∨ k' = 4 ∨ k' = 5 ∨ k' = 6 ∨ k' = 7 ∨ k' = 8 ∨ k' = 9 ∨ 10 ≤ k' by omega) with rfl | rfl | rfl | rfl | rfl | rfl | rfl | rfl | rfl | rfl | h10
    · have hi : i' ≠ 0 := fun z => hk ⟨rfl, z⟩
      simp [mC, cC, hi]
    · simp [mC, cC, st]
    · simp [mC, cC, st]
    · simp [mC, cC, st]
    · simp [mC, cC, st, show ¬ 40 + i' = 6 by omega]
    · simp [mC, cC, st]
    · simp [mC, cC, st]
    · simp [mC, cC, st]
    · simp [mC, cC, st]
    · simp [mC, cC, st]
    · simp [mC, show ¬ k' < 10 by omega]
theorem up_shift {x : Nat} : wup (mC Z ta pl al u) 0 0 (.inr (4, [.int (nI (u 0 0)), .int (nI (u 1 0)), .ref (al 1 0), .ref (al 2 0), .ref (al 5 0), .ref (al 7 0), .ref (al 8 0), .int (nI (u 2 0)), .int (nI (u 3 0)), .int (nI (u 4 0)), .int (nI (u 5 0)), .int (nI (u 6 0)), .int (nI x)])) = mC Z ta pl al (st u 7 0 x) := by
  funext k' i'
  by_cases hk : k' = 0 ∧ i' = 0
  · obtain ⟨rfl, rfl⟩ := hk
    rw [wup_self]
    simp_all [mC, cC, st]
  · rw [wup_ne hk]
    rcases (show k' = 0 ∨ k' = 1 ∨ k' = 2 ∨ k' = 3 ∨ k' = 4 ∨ k' = 5 ∨ k' = 6 ∨ k' = 7 ∨ k' = 8 ∨ k' = 9 ∨ 10 ≤ k' by omega) with rfl | rfl | rfl | rfl | rfl | rfl | rfl | rfl | rfl | rfl | h10
    · have hi : i' ≠ 0 := fun z => hk ⟨rfl, z⟩
      simp [mC, cC, hi]
    · simp [mC, cC, st]
    · simp [mC, cC, st]
    · simp [mC, cC, st]
    · simp [mC, cC, st, show ¬ 40 + i' = 7 by omega]
    · simp [mC, cC, st]
    · simp [mC, cC, st]
    · simp [mC, cC, st]
    · simp [mC, cC, st]
    · simp [mC, cC, st]
    · simp [mC, show ¬ k' < 10 by omega]
theorem up_waiting {n x : Nat} (h : 1 ≤ n ∧ n ≤ 4) : wup (mC Z ta pl al u) 3 n (.inr (2, [.int (nI ((n - 1) * u 0 0 / 4)), .ref (al 4 n), .int (nI x), .long (lN (u 13 n)), .int (nI (u 14 n))])) = mC Z ta pl al (st u 12 n x) := by
  funext k' i'
  by_cases hk : k' = 3 ∧ i' = n
  · obtain ⟨rfl, rfl⟩ := hk
    rw [wup_self]
    simp_all [mC, cC, st]
  · rw [wup_ne hk]
    rcases (show k' = 0 ∨ k' = 1 ∨ k' = 2 ∨ k' = 3 ∨ k' = 4 ∨ k' = 5 ∨ k' = 6 ∨ k' = 7 ∨ k' = 8 ∨ k' = 9 ∨ 10 ≤ k' by omega) with rfl | rfl | rfl | rfl | rfl | rfl | rfl | rfl | rfl | rfl | h10
    · simp [mC, cC, st]
    · simp [mC, cC, st]
    · simp [mC, cC, st]
    · have hi : i' ≠ n := fun z => hk ⟨rfl, z⟩
      simp [mC, cC, st, hi]
    · simp [mC, cC, st, show ¬ 40 + i' = 12 by omega]
    · simp [mC, cC, st]
    · simp [mC, cC, st]
    · simp [mC, cC, st]
    · simp [mC, cC, st]
    · simp [mC, cC, st]
    · simp [mC, show ¬ k' < 10 by omega]
theorem up_putOnCount {n x : Nat} (h : 1 ≤ n ∧ n ≤ 4) : wup (mC Z ta pl al u) 3 n (.inr (2, [.int (nI ((n - 1) * u 0 0 / 4)), .ref (al 4 n), .int (nI (u 12 n)), .long (lN x), .int (nI (u 14 n))])) = mC Z ta pl al (st u 13 n x) := by
  funext k' i'
  by_cases hk : k' = 3 ∧ i' = n
  · obtain ⟨rfl, rfl⟩ := hk
    rw [wup_self]
    simp_all [mC, cC, st]
  · rw [wup_ne hk]
    rcases (show k' = 0 ∨ k' = 1 ∨ k' = 2 ∨ k' = 3 ∨ k' = 4 ∨ k' = 5 ∨ k' = 6 ∨ k' = 7 ∨ k' = 8 ∨ k' = 9 ∨ 10 ≤ k' by omega) with rfl | rfl | rfl | rfl | rfl | rfl | rfl | rfl | rfl | rfl | h10
    · simp [mC, cC, st]
    · simp [mC, cC, st]
    · simp [mC, cC, st]
    · have hi : i' ≠ n := fun z => hk ⟨rfl, z⟩
      simp [mC, cC, st, hi]
    · simp [mC, cC, st, show ¬ 40 + i' = 13 by omega]
    · simp [mC, cC, st]
    · simp [mC, cC, st]
    · simp [mC, cC, st]
    · simp [mC, cC, st]
    · simp [mC, cC, st]
    · simp [mC, show ¬ k' < 10 by omega]
theorem up_hadTurn {n x : Nat} (h : 1 ≤ n ∧ n ≤ 4) : wup (mC Z ta pl al u) 3 n (.inr (2, [.int (nI ((n - 1) * u 0 0 / 4)), .ref (al 4 n), .int (nI (u 12 n)), .long (lN (u 13 n)), .int (nI x)])) = mC Z ta pl al (st u 14 n x) := by
  funext k' i'
  by_cases hk : k' = 3 ∧ i' = n
  · obtain ⟨rfl, rfl⟩ := hk
    rw [wup_self]
    simp_all [mC, cC, st]
  · rw [wup_ne hk]
    rcases (show k' = 0 ∨ k' = 1 ∨ k' = 2 ∨ k' = 3 ∨ k' = 4 ∨ k' = 5 ∨ k' = 6 ∨ k' = 7 ∨ k' = 8 ∨ k' = 9 ∨ 10 ≤ k' by omega) with rfl | rfl | rfl | rfl | rfl | rfl | rfl | rfl | rfl | rfl | h10
    · simp [mC, cC, st]
    · simp [mC, cC, st]
    · simp [mC, cC, st]
    · have hi : i' ≠ n := fun z => hk ⟨rfl, z⟩
      simp [mC, cC, st, hi]
    · simp [mC, cC, st, show ¬ 40 + i' = 14 by omega]
    · simp [mC, cC, st]
    · simp [mC, cC, st]
    · simp [mC, cC, st]
    · simp [mC, cC, st]
    · simp [mC, cC, st]
    · simp [mC, show ¬ k' < 10 by omega]
theorem up_lying {n x : Nat} (h : n < 16) : wup (mC Z ta pl al u) 6 n (.inr (1, [.int (nI ((n * u 0 0 + u 0 0 / 2) / 16)), .int (nI (bN (n = 15))), .int (nI x), .int (nI (u 19 n))])) = mC Z ta pl al (st u 18 n x) := by
  funext k' i'
  by_cases hk : k' = 6 ∧ i' = n
  · obtain ⟨rfl, rfl⟩ := hk
    rw [wup_self]
    simp_all [mC, cC, st]
  · rw [wup_ne hk]
    rcases (show k' = 0 ∨ k' = 1 ∨ k' = 2 ∨ k' = 3 ∨ k' = 4 ∨ k' = 5 ∨ k' = 6 ∨ k' = 7 ∨ k' = 8 ∨ k' = 9 ∨ 10 ≤ k' by omega) with rfl | rfl | rfl | rfl | rfl | rfl | rfl | rfl | rfl | rfl | h10
    · simp [mC, cC, st]
    · simp [mC, cC, st]
    · simp [mC, cC, st]
    · simp [mC, cC, st]
    · simp [mC, cC, st, show ¬ 40 + i' = 18 by omega]
    · simp [mC, cC, st]
    · have hi : i' ≠ n := fun z => hk ⟨rfl, z⟩
      simp [mC, cC, st, hi]
    · simp [mC, cC, st]
    · simp [mC, cC, st]
    · simp [mC, cC, st]
    · simp [mC, show ¬ k' < 10 by omega]
theorem up_heldShut {n x : Nat} (h : n < 16) : wup (mC Z ta pl al u) 6 n (.inr (1, [.int (nI ((n * u 0 0 + u 0 0 / 2) / 16)), .int (nI (bN (n = 15))), .int (nI (u 18 n)), .int (nI x)])) = mC Z ta pl al (st u 19 n x) := by
  funext k' i'
  by_cases hk : k' = 6 ∧ i' = n
  · obtain ⟨rfl, rfl⟩ := hk
    rw [wup_self]
    simp_all [mC, cC, st]
  · rw [wup_ne hk]
    rcases (show k' = 0 ∨ k' = 1 ∨ k' = 2 ∨ k' = 3 ∨ k' = 4 ∨ k' = 5 ∨ k' = 6 ∨ k' = 7 ∨ k' = 8 ∨ k' = 9 ∨ 10 ≤ k' by omega) with rfl | rfl | rfl | rfl | rfl | rfl | rfl | rfl | rfl | rfl | h10
    · simp [mC, cC, st]
    · simp [mC, cC, st]
    · simp [mC, cC, st]
    · simp [mC, cC, st]
    · simp [mC, cC, st, show ¬ 40 + i' = 19 by omega]
    · simp [mC, cC, st]
    · have hi : i' ≠ n := fun z => hk ⟨rfl, z⟩
      simp [mC, cC, st, hi]
    · simp [mC, cC, st]
    · simp [mC, cC, st]
    · simp [mC, cC, st]
    · simp [mC, show ¬ k' < 10 by omega]
theorem up_place {n x : Nat} (h : 1 ≤ n ∧ n ≤ u 30 0) : wup (mC Z ta pl al u) 9 n (.inr (3, [.int (nI n), .int (nI (u 21 n)), .int (nI (u 22 n)), .ref (pl x), .int (nI (u 24 n)), .int (nI (u 25 n)), .int (nI (u 26 n)), .int (nI (u 27 n))])) = mC Z ta pl al (st u 23 n x) := by
  funext k' i'
  by_cases hk : k' = 9 ∧ i' = n
  · obtain ⟨rfl, rfl⟩ := hk
    rw [wup_self]
    simp_all [mC, cC, st]
  · rw [wup_ne hk]
    rcases (show k' = 0 ∨ k' = 1 ∨ k' = 2 ∨ k' = 3 ∨ k' = 4 ∨ k' = 5 ∨ k' = 6 ∨ k' = 7 ∨ k' = 8 ∨ k' = 9 ∨ 10 ≤ k' by omega) with rfl | rfl | rfl | rfl | rfl | rfl | rfl | rfl | rfl | rfl | h10
    · simp [mC, cC, st]
    · simp [mC, cC, st]
    · simp [mC, cC, st]
    · simp [mC, cC, st]
    · simp [mC, cC, st, show ¬ 40 + i' = 23 by omega]
    · simp [mC, cC, st]
    · simp [mC, cC, st]
    · simp [mC, cC, st]
    · simp [mC, cC, st]
    · have hi : i' ≠ n := fun z => hk ⟨rfl, z⟩
      simp [mC, cC, st, hi]
    · simp [mC, show ¬ k' < 10 by omega]
theorem up_ownTray {n x : Nat} (h : 1 ≤ n ∧ n ≤ u 30 0) : wup (mC Z ta pl al u) 9 n (.inr (3, [.int (nI n), .int (nI (u 21 n)), .int (nI (u 22 n)), .ref (pl (u 23 n)), .int (nI x), .int (nI (u 25 n)), .int (nI (u 26 n)), .int (nI (u 27 n))])) = mC Z ta pl al (st u 24 n x) := by
  funext k' i'
  by_cases hk : k' = 9 ∧ i' = n
  · obtain ⟨rfl, rfl⟩ := hk
    rw [wup_self]
    simp_all [mC, cC, st]
  · rw [wup_ne hk]
    rcases (show k' = 0 ∨ k' = 1 ∨ k' = 2 ∨ k' = 3 ∨ k' = 4 ∨ k' = 5 ∨ k' = 6 ∨ k' = 7 ∨ k' = 8 ∨ k' = 9 ∨ 10 ≤ k' by omega) with rfl | rfl | rfl | rfl | rfl | rfl | rfl | rfl | rfl | rfl | h10
    · simp [mC, cC, st]
    · simp [mC, cC, st]
    · simp [mC, cC, st]
    · simp [mC, cC, st]
    · simp [mC, cC, st, show ¬ 40 + i' = 24 by omega]
    · simp [mC, cC, st]
    · simp [mC, cC, st]
    · simp [mC, cC, st]
    · simp [mC, cC, st]
    · have hi : i' ≠ n := fun z => hk ⟨rfl, z⟩
      simp [mC, cC, st, hi]
    · simp [mC, show ¬ k' < 10 by omega]
theorem up_rounds {n x : Nat} (h : 1 ≤ n ∧ n ≤ u 30 0) : wup (mC Z ta pl al u) 9 n (.inr (3, [.int (nI n), .int (nI (u 21 n)), .int (nI (u 22 n)), .ref (pl (u 23 n)), .int (nI (u 24 n)), .int (nI x), .int (nI (u 26 n)), .int (nI (u 27 n))])) = mC Z ta pl al (st u 25 n x) := by
  funext k' i'
  by_cases hk : k' = 9 ∧ i' = n
  · obtain ⟨rfl, rfl⟩ := hk
    rw [wup_self]
    simp_all [mC, cC, st]
  · rw [wup_ne hk]
    rcases (show k' = 0 ∨ k' = 1 ∨ k' = 2 ∨ k' = 3 ∨ k' = 4 ∨ k' = 5 ∨ k' = 6 ∨ k' = 7 ∨ k' = 8 ∨ k' = 9 ∨ 10 ≤ k' by omega) with rfl | rfl | rfl | rfl | rfl | rfl | rfl | rfl | rfl | rfl | h10
    · simp [mC, cC, st]
    · simp [mC, cC, st]
    · simp [mC, cC, st]
    · simp [mC, cC, st]
    · simp [mC, cC, st, show ¬ 40 + i' = 25 by omega]
    · simp [mC, cC, st]
    · simp [mC, cC, st]
    · simp [mC, cC, st]
    · simp [mC, cC, st]
    · have hi : i' ≠ n := fun z => hk ⟨rfl, z⟩
      simp [mC, cC, st, hi]
    · simp [mC, show ¬ k' < 10 by omega]
theorem up_outChute {n x : Nat} (h : 1 ≤ n ∧ n ≤ u 30 0) : wup (mC Z ta pl al u) 9 n (.inr (3, [.int (nI n), .int (nI (u 21 n)), .int (nI (u 22 n)), .ref (pl (u 23 n)), .int (nI (u 24 n)), .int (nI (u 25 n)), .int (nI x), .int (nI (u 27 n))])) = mC Z ta pl al (st u 26 n x) := by
  funext k' i'
  by_cases hk : k' = 9 ∧ i' = n
  · obtain ⟨rfl, rfl⟩ := hk
    rw [wup_self]
    simp_all [mC, cC, st]
  · rw [wup_ne hk]
    rcases (show k' = 0 ∨ k' = 1 ∨ k' = 2 ∨ k' = 3 ∨ k' = 4 ∨ k' = 5 ∨ k' = 6 ∨ k' = 7 ∨ k' = 8 ∨ k' = 9 ∨ 10 ≤ k' by omega) with rfl | rfl | rfl | rfl | rfl | rfl | rfl | rfl | rfl | rfl | h10
    · simp [mC, cC, st]
    · simp [mC, cC, st]
    · simp [mC, cC, st]
    · simp [mC, cC, st]
    · simp [mC, cC, st, show ¬ 40 + i' = 26 by omega]
    · simp [mC, cC, st]
    · simp [mC, cC, st]
    · simp [mC, cC, st]
    · simp [mC, cC, st]
    · have hi : i' ≠ n := fun z => hk ⟨rfl, z⟩
      simp [mC, cC, st, hi]
    · simp [mC, show ¬ k' < 10 by omega]
theorem up_outTime {n x : Nat} (h : 1 ≤ n ∧ n ≤ u 30 0) : wup (mC Z ta pl al u) 9 n (.inr (3, [.int (nI n), .int (nI (u 21 n)), .int (nI (u 22 n)), .ref (pl (u 23 n)), .int (nI (u 24 n)), .int (nI (u 25 n)), .int (nI (u 26 n)), .int (nI x)])) = mC Z ta pl al (st u 27 n x) := by
  funext k' i'
  by_cases hk : k' = 9 ∧ i' = n
  · obtain ⟨rfl, rfl⟩ := hk
    rw [wup_self]
    simp_all [mC, cC, st]
  · rw [wup_ne hk]
    rcases (show k' = 0 ∨ k' = 1 ∨ k' = 2 ∨ k' = 3 ∨ k' = 4 ∨ k' = 5 ∨ k' = 6 ∨ k' = 7 ∨ k' = 8 ∨ k' = 9 ∨ 10 ≤ k' by omega) with rfl | rfl | rfl | rfl | rfl | rfl | rfl | rfl | rfl | rfl | h10
    · simp [mC, cC, st]
    · simp [mC, cC, st]
    · simp [mC, cC, st]
    · simp [mC, cC, st]
    · simp [mC, cC, st, show ¬ 40 + i' = 27 by omega]
    · simp [mC, cC, st]
    · simp [mC, cC, st]
    · simp [mC, cC, st]
    · simp [mC, cC, st]
    · have hi : i' ≠ n := fun z => hk ⟨rfl, z⟩
      simp [mC, cC, st, hi]
    · simp [mC, show ¬ k' < 10 by omega]
theorem rI_up {g : Nat → Nat} {j x : Nat} : va_up (fun j => rI al (g j)) j (rI al x) = fun j' => rI al (if j' = j then x else g j') := by
  funext j'
  by_cases h : j' = j
  · simp [va_up, h]
  · simp [va_up, h]
theorem up_carriedBy {j x : Nat} : wup (mC Z ta pl al u) 1 0 (.inl (ta 0, u 0 0, .inr (.inr (.inr (.inr (va_up (fun j => rI al (u 8 j)) j (rI al x))))))) = mC Z ta pl al (st u 8 j x) := by
  funext k' i'
  by_cases hk : k' = 1 ∧ i' = 0
  · obtain ⟨rfl, rfl⟩ := hk
    rw [wup_self]
    simp only [mC, cC, rI_up]
    simp [st]
  · rw [wup_ne hk]
    rcases (show k' = 0 ∨ k' = 1 ∨ k' = 2 ∨ k' = 3 ∨ k' = 4 ∨ k' = 5 ∨ k' = 6 ∨ k' = 7 ∨ k' = 8 ∨ k' = 9 ∨ 10 ≤ k' by omega) with rfl | rfl | rfl | rfl | rfl | rfl | rfl | rfl | rfl | rfl | h10
    · simp [mC, cC, st]
    · have hi : i' ≠ 0 := fun z => hk ⟨rfl, z⟩
      simp [mC, cC, st, hi]
    · simp [mC, cC, st]
    · simp [mC, cC, st]
    · simp [mC, cC, st, show ¬ 40 + i' = 8 by omega]
    · simp [mC, cC, st]
    · simp [mC, cC, st]
    · simp [mC, cC, st]
    · simp [mC, cC, st]
    · simp [mC, cC, st]
    · simp [mC, show ¬ k' < 10 by omega]
theorem up_items {j x : Nat} : wup (mC Z ta pl al u) 7 0 (.inl (ta 0, 400, .inr (.inr (.inr (.inr (va_up (fun j => rI al (u 9 j)) j (rI al x))))))) = mC Z ta pl al (st u 9 j x) := by
  funext k' i'
  by_cases hk : k' = 7 ∧ i' = 0
  · obtain ⟨rfl, rfl⟩ := hk
    rw [wup_self]
    simp only [mC, cC, rI_up]
    simp [st]
  · rw [wup_ne hk]
    rcases (show k' = 0 ∨ k' = 1 ∨ k' = 2 ∨ k' = 3 ∨ k' = 4 ∨ k' = 5 ∨ k' = 6 ∨ k' = 7 ∨ k' = 8 ∨ k' = 9 ∨ 10 ≤ k' by omega) with rfl | rfl | rfl | rfl | rfl | rfl | rfl | rfl | rfl | rfl | h10
    · simp [mC, cC, st]
    · simp [mC, cC, st]
    · simp [mC, cC, st]
    · simp [mC, cC, st]
    · simp [mC, cC, st, show ¬ 40 + i' = 9 by omega]
    · simp [mC, cC, st]
    · simp [mC, cC, st]
    · have hi : i' ≠ 0 := fun z => hk ⟨rfl, z⟩
      simp [mC, cC, st, hi]
    · simp [mC, cC, st]
    · simp [mC, cC, st]
    · simp [mC, show ¬ k' < 10 by omega]
theorem up_gone {j x : Nat} : wup (mC Z ta pl al u) 8 0 (.inl (ta 0, 400, .inr (.inr (.inr (.inr (va_up (fun j => rI al (u 10 j)) j (rI al x))))))) = mC Z ta pl al (st u 10 j x) := by
  funext k' i'
  by_cases hk : k' = 8 ∧ i' = 0
  · obtain ⟨rfl, rfl⟩ := hk
    rw [wup_self]
    simp only [mC, cC, rI_up]
    simp [st]
  · rw [wup_ne hk]
    rcases (show k' = 0 ∨ k' = 1 ∨ k' = 2 ∨ k' = 3 ∨ k' = 4 ∨ k' = 5 ∨ k' = 6 ∨ k' = 7 ∨ k' = 8 ∨ k' = 9 ∨ 10 ≤ k' by omega) with rfl | rfl | rfl | rfl | rfl | rfl | rfl | rfl | rfl | rfl | h10
    · simp [mC, cC, st]
    · simp [mC, cC, st]
    · simp [mC, cC, st]
    · simp [mC, cC, st]
    · simp [mC, cC, st, show ¬ 40 + i' = 10 by omega]
    · simp [mC, cC, st]
    · simp [mC, cC, st]
    · simp [mC, cC, st]
    · have hi : i' ≠ 0 := fun z => hk ⟨rfl, z⟩
      simp [mC, cC, st, hi]
    · simp [mC, cC, st]
    · simp [mC, show ¬ k' < 10 by omega]
theorem up_row {n j x : Nat} (h : 1 ≤ n ∧ n ≤ 4) : wup (mC Z ta pl al u) 4 n (.inl (ta 0, 8, .inr (.inr (.inr (.inr (va_up (fun j => rI al (u (40 + n) j)) j (rI al x))))))) = mC Z ta pl al (st u (40 + n) j x) := by
  have h40 : ∀ a, a < 40 → (a = 40 + n ↔ False) := fun a ha => ⟨fun z => by omega, False.elim⟩
  funext k' i'
  by_cases hk : k' = 4 ∧ i' = n
  · obtain ⟨rfl, rfl⟩ := hk
    rw [wup_self]
    simp only [mC, cC, rI_up]
    simp [st, h]
  · rw [wup_ne hk]
    rcases (show k' = 0 ∨ k' = 1 ∨ k' = 2 ∨ k' = 3 ∨ k' = 4 ∨ k' = 5 ∨ k' = 6 ∨ k' = 7 ∨ k' = 8 ∨ k' = 9 ∨ 10 ≤ k' by omega) with rfl | rfl | rfl | rfl | rfl | rfl | rfl | rfl | rfl | rfl | h10
    · simp [mC, cC, st, h40]
    · simp [mC, cC, st, h40]
    · simp [mC, cC, st, h40]
    · simp [mC, cC, st, h40]
    · have hi : i' ≠ n := fun z => hk ⟨rfl, z⟩
      simp [mC, cC, st, hi]
    · simp [mC, cC, st, h40]
    · simp [mC, cC, st, h40]
    · simp [mC, cC, st, h40]
    · simp [mC, cC, st, h40]
    · simp [mC, cC, st, h40]
    · simp [mC, show ¬ k' < 10 by omega]
theorem um_thrown {x : Nat} : wup (mM Z ta al v) 10 0 (.inr (5, [.int (nI x), .int (nI (v 1 0)), .int (nI (v 2 0)), .ref (al 11 0), .ref (al 12 0), .int (nI (v 3 0)), .int (nI (v 4 0)), .int (nI (v 5 0)), .ref (al 13 0), .ref (al 14 0), .ref (al 15 0), .ref (al 16 0), .ref (al 17 0), .ref (al 18 0), .ref (al 19 0), .ref (al 20 0), .ref (al 21 0), .int (nI (v 6 0)), .ref (al 22 0), .ref (al 23 0), .ref (al 24 0), .ref (al 25 0)])) = mM Z ta al (st v 0 0 x) := by
  funext k' i'
  by_cases hk : k' = 10 ∧ i' = 0
  · obtain ⟨rfl, rfl⟩ := hk
    rw [wup_self]
    simp [mM, cM, st]
  · rw [wup_ne hk]
    rcases (show k' = 10 ∨ k' = 11 ∨ k' = 12 ∨ k' = 13 ∨ k' = 14 ∨ k' = 15 ∨ k' = 16 ∨ k' = 17 ∨ k' = 18 ∨ k' = 19 ∨ k' = 20 ∨ k' = 21 ∨ k' = 22 ∨ k' = 23 ∨ k' = 24 ∨ k' = 25 ∨ ¬ (10 ≤ k' ∧ k' < 26) by omega) with rfl | rfl | rfl | rfl | rfl | rfl | rfl | rfl | rfl | rfl | rfl | rfl | rfl | rfl | rfl | rfl | h10
    · have hi : i' ≠ 0 := fun z => hk ⟨rfl, z⟩
      simp [mM, cM, hi]
    · simp [mM, cM, st]
    · simp [mM, cM, st]
    · simp [mM, cM, st]
    · simp [mM, cM, st]
    · simp [mM, cM, st]
    · simp [mM, cM, st]
    · simp [mM, cM, st]
    · simp [mM, cM, st]
    · simp [mM, cM, st]
    · simp [mM, cM, st]
    · simp [mM, cM, st]
    · simp [mM, cM, st]
    · simp [mM, cM, st]
    · simp [mM, cM, st]
    · simp [mM, cM, st]
    · simp [mM, h10]
theorem um_speed {x : Nat} : wup (mM Z ta al v) 10 0 (.inr (5, [.int (nI (v 0 0)), .int (nI (v 1 0)), .int (nI (v 2 0)), .ref (al 11 0), .ref (al 12 0), .int (nI x), .int (nI (v 4 0)), .int (nI (v 5 0)), .ref (al 13 0), .ref (al 14 0), .ref (al 15 0), .ref (al 16 0), .ref (al 17 0), .ref (al 18 0), .ref (al 19 0), .ref (al 20 0), .ref (al 21 0), .int (nI (v 6 0)), .ref (al 22 0), .ref (al 23 0), .ref (al 24 0), .ref (al 25 0)])) = mM Z ta al (st v 3 0 x) := by
  funext k' i'
  by_cases hk : k' = 10 ∧ i' = 0
  · obtain ⟨rfl, rfl⟩ := hk
    rw [wup_self]
    simp [mM, cM, st]
  · rw [wup_ne hk]
    rcases (show k' = 10 ∨ k' = 11 ∨ k' = 12 ∨ k' = 13 ∨ k' = 14 ∨ k' = 15 ∨ k' = 16 ∨ k' = 17 ∨ k' = 18 ∨ k' = 19 ∨ k' = 20 ∨ k' = 21 ∨ k' = 22 ∨ k' = 23 ∨ k' = 24 ∨ k' = 25 ∨ ¬ (10 ≤ k' ∧ k' < 26) by omega) with rfl | rfl | rfl | rfl | rfl | rfl | rfl | rfl | rfl | rfl | rfl | rfl | rfl | rfl | rfl | rfl | h10
    · have hi : i' ≠ 0 := fun z => hk ⟨rfl, z⟩
      simp [mM, cM, hi]
    · simp [mM, cM, st]
    · simp [mM, cM, st]
    · simp [mM, cM, st]
    · simp [mM, cM, st]
    · simp [mM, cM, st]
    · simp [mM, cM, st]
    · simp [mM, cM, st]
    · simp [mM, cM, st]
    · simp [mM, cM, st]
    · simp [mM, cM, st]
    · simp [mM, cM, st]
    · simp [mM, cM, st]
    · simp [mM, cM, st]
    · simp [mM, cM, st]
    · simp [mM, cM, st]
    · simp [mM, h10]
theorem um_time {x : Nat} : wup (mM Z ta al v) 10 0 (.inr (5, [.int (nI (v 0 0)), .int (nI (v 1 0)), .int (nI (v 2 0)), .ref (al 11 0), .ref (al 12 0), .int (nI (v 3 0)), .int (nI x), .int (nI (v 5 0)), .ref (al 13 0), .ref (al 14 0), .ref (al 15 0), .ref (al 16 0), .ref (al 17 0), .ref (al 18 0), .ref (al 19 0), .ref (al 20 0), .ref (al 21 0), .int (nI (v 6 0)), .ref (al 22 0), .ref (al 23 0), .ref (al 24 0), .ref (al 25 0)])) = mM Z ta al (st v 4 0 x) := by
  funext k' i'
  by_cases hk : k' = 10 ∧ i' = 0
  · obtain ⟨rfl, rfl⟩ := hk
    rw [wup_self]
    simp [mM, cM, st]
  · rw [wup_ne hk]
    rcases (show k' = 10 ∨ k' = 11 ∨ k' = 12 ∨ k' = 13 ∨ k' = 14 ∨ k' = 15 ∨ k' = 16 ∨ k' = 17 ∨ k' = 18 ∨ k' = 19 ∨ k' = 20 ∨ k' = 21 ∨ k' = 22 ∨ k' = 23 ∨ k' = 24 ∨ k' = 25 ∨ ¬ (10 ≤ k' ∧ k' < 26) by omega) with rfl | rfl | rfl | rfl | rfl | rfl | rfl | rfl | rfl | rfl | rfl | rfl | rfl | rfl | rfl | rfl | h10
    · have hi : i' ≠ 0 := fun z => hk ⟨rfl, z⟩
      simp [mM, cM, hi]
    · simp [mM, cM, st]
    · simp [mM, cM, st]
    · simp [mM, cM, st]
    · simp [mM, cM, st]
    · simp [mM, cM, st]
    · simp [mM, cM, st]
    · simp [mM, cM, st]
    · simp [mM, cM, st]
    · simp [mM, cM, st]
    · simp [mM, cM, st]
    · simp [mM, cM, st]
    · simp [mM, cM, st]
    · simp [mM, cM, st]
    · simp [mM, cM, st]
    · simp [mM, cM, st]
    · simp [mM, h10]
theorem um_items {x : Nat} : wup (mM Z ta al v) 10 0 (.inr (5, [.int (nI (v 0 0)), .int (nI (v 1 0)), .int (nI (v 2 0)), .ref (al 11 0), .ref (al 12 0), .int (nI (v 3 0)), .int (nI (v 4 0)), .int (nI x), .ref (al 13 0), .ref (al 14 0), .ref (al 15 0), .ref (al 16 0), .ref (al 17 0), .ref (al 18 0), .ref (al 19 0), .ref (al 20 0), .ref (al 21 0), .int (nI (v 6 0)), .ref (al 22 0), .ref (al 23 0), .ref (al 24 0), .ref (al 25 0)])) = mM Z ta al (st v 5 0 x) := by
  funext k' i'
  by_cases hk : k' = 10 ∧ i' = 0
  · obtain ⟨rfl, rfl⟩ := hk
    rw [wup_self]
    simp [mM, cM, st]
  · rw [wup_ne hk]
    rcases (show k' = 10 ∨ k' = 11 ∨ k' = 12 ∨ k' = 13 ∨ k' = 14 ∨ k' = 15 ∨ k' = 16 ∨ k' = 17 ∨ k' = 18 ∨ k' = 19 ∨ k' = 20 ∨ k' = 21 ∨ k' = 22 ∨ k' = 23 ∨ k' = 24 ∨ k' = 25 ∨ ¬ (10 ≤ k' ∧ k' < 26) by omega) with rfl | rfl | rfl | rfl | rfl | rfl | rfl | rfl | rfl | rfl | rfl | rfl | rfl | rfl | rfl | rfl | h10
    · have hi : i' ≠ 0 := fun z => hk ⟨rfl, z⟩
      simp [mM, cM, hi]
    · simp [mM, cM, st]
    · simp [mM, cM, st]
    · simp [mM, cM, st]
    · simp [mM, cM, st]
    · simp [mM, cM, st]
    · simp [mM, cM, st]
    · simp [mM, cM, st]
    · simp [mM, cM, st]
    · simp [mM, cM, st]
    · simp [mM, cM, st]
    · simp [mM, cM, st]
    · simp [mM, cM, st]
    · simp [mM, cM, st]
    · simp [mM, cM, st]
    · simp [mM, cM, st]
    · simp [mM, h10]
theorem um_gone {x : Nat} : wup (mM Z ta al v) 10 0 (.inr (5, [.int (nI (v 0 0)), .int (nI (v 1 0)), .int (nI (v 2 0)), .ref (al 11 0), .ref (al 12 0), .int (nI (v 3 0)), .int (nI (v 4 0)), .int (nI (v 5 0)), .ref (al 13 0), .ref (al 14 0), .ref (al 15 0), .ref (al 16 0), .ref (al 17 0), .ref (al 18 0), .ref (al 19 0), .ref (al 20 0), .ref (al 21 0), .int (nI x), .ref (al 22 0), .ref (al 23 0), .ref (al 24 0), .ref (al 25 0)])) = mM Z ta al (st v 6 0 x) := by
  funext k' i'
  by_cases hk : k' = 10 ∧ i' = 0
  · obtain ⟨rfl, rfl⟩ := hk
    rw [wup_self]
    simp [mM, cM, st]
  · rw [wup_ne hk]
    rcases (show k' = 10 ∨ k' = 11 ∨ k' = 12 ∨ k' = 13 ∨ k' = 14 ∨ k' = 15 ∨ k' = 16 ∨ k' = 17 ∨ k' = 18 ∨ k' = 19 ∨ k' = 20 ∨ k' = 21 ∨ k' = 22 ∨ k' = 23 ∨ k' = 24 ∨ k' = 25 ∨ ¬ (10 ≤ k' ∧ k' < 26) by omega) with rfl | rfl | rfl | rfl | rfl | rfl | rfl | rfl | rfl | rfl | rfl | rfl | rfl | rfl | rfl | rfl | h10
    · have hi : i' ≠ 0 := fun z => hk ⟨rfl, z⟩
      simp [mM, cM, hi]
    · simp [mM, cM, st]
    · simp [mM, cM, st]
    · simp [mM, cM, st]
    · simp [mM, cM, st]
    · simp [mM, cM, st]
    · simp [mM, cM, st]
    · simp [mM, cM, st]
    · simp [mM, cM, st]
    · simp [mM, cM, st]
    · simp [mM, cM, st]
    · simp [mM, cM, st]
    · simp [mM, cM, st]
    · simp [mM, cM, st]
    · simp [mM, cM, st]
    · simp [mM, cM, st]
    · simp [mM, h10]
theorem nI_up {g : Nat → Nat} {j x : Nat} : upd (fun j => nI (g j)) j (nI x) = fun j' => nI (if j' = j then x else g j') := by
  funext j'
  by_cases h : j' = j
  · simp [upd, h]
  · simp [upd, h]
theorem lN_up {g : Nat → Nat} {j x : Nat} : vp_updL (fun j => lN (g j)) j (lN x) = fun j' => lN (if j' = j then x else g j') := by
  funext j'
  by_cases h : j' = j
  · simp [vp_updL, h]
  · simp [vp_updL, h]
theorem um_a11 {j x : Nat} : wup (mM Z ta al v) 11 0 (.inl (ta 3, 200, .inl (upd (fun j => nI (v 11 j)) j (nI x)))) = mM Z ta al (st v 11 j x) := by
  funext k' i'
  by_cases hk : k' = 11 ∧ i' = 0
  · obtain ⟨rfl, rfl⟩ := hk
    rw [wup_self]
    simp only [mM, cM, nI_up]
    simp [st]
  · rw [wup_ne hk]
    rcases (show k' = 10 ∨ k' = 11 ∨ k' = 12 ∨ k' = 13 ∨ k' = 14 ∨ k' = 15 ∨ k' = 16 ∨ k' = 17 ∨ k' = 18 ∨ k' = 19 ∨ k' = 20 ∨ k' = 21 ∨ k' = 22 ∨ k' = 23 ∨ k' = 24 ∨ k' = 25 ∨ ¬ (10 ≤ k' ∧ k' < 26) by omega) with rfl | rfl | rfl | rfl | rfl | rfl | rfl | rfl | rfl | rfl | rfl | rfl | rfl | rfl | rfl | rfl | h10
    · simp [mM, cM, st]
    · have hi : i' ≠ 0 := fun z => hk ⟨rfl, z⟩
      simp [mM, cM, hi]
    · simp [mM, cM, st]
    · simp [mM, cM, st]
    · simp [mM, cM, st]
    · simp [mM, cM, st]
    · simp [mM, cM, st]
    · simp [mM, cM, st]
    · simp [mM, cM, st]
    · simp [mM, cM, st]
    · simp [mM, cM, st]
    · simp [mM, cM, st]
    · simp [mM, cM, st]
    · simp [mM, cM, st]
    · simp [mM, cM, st]
    · simp [mM, cM, st]
    · simp [mM, h10]
theorem um_a12 {j x : Nat} : wup (mM Z ta al v) 12 0 (.inl (ta 3, 200, .inl (upd (fun j => nI (v 12 j)) j (nI x)))) = mM Z ta al (st v 12 j x) := by
  funext k' i'
  by_cases hk : k' = 12 ∧ i' = 0
  · obtain ⟨rfl, rfl⟩ := hk
    rw [wup_self]
    simp only [mM, cM, nI_up]
    simp [st]
  · rw [wup_ne hk]
    rcases (show k' = 10 ∨ k' = 11 ∨ k' = 12 ∨ k' = 13 ∨ k' = 14 ∨ k' = 15 ∨ k' = 16 ∨ k' = 17 ∨ k' = 18 ∨ k' = 19 ∨ k' = 20 ∨ k' = 21 ∨ k' = 22 ∨ k' = 23 ∨ k' = 24 ∨ k' = 25 ∨ ¬ (10 ≤ k' ∧ k' < 26) by omega) with rfl | rfl | rfl | rfl | rfl | rfl | rfl | rfl | rfl | rfl | rfl | rfl | rfl | rfl | rfl | rfl | h10
    · simp [mM, cM, st]
    · simp [mM, cM, st]
    · have hi : i' ≠ 0 := fun z => hk ⟨rfl, z⟩
      simp [mM, cM, hi]
    · simp [mM, cM, st]
    · simp [mM, cM, st]
    · simp [mM, cM, st]
    · simp [mM, cM, st]
    · simp [mM, cM, st]
    · simp [mM, cM, st]
    · simp [mM, cM, st]
    · simp [mM, cM, st]
    · simp [mM, cM, st]
    · simp [mM, cM, st]
    · simp [mM, cM, st]
    · simp [mM, cM, st]
    · simp [mM, cM, st]
    · simp [mM, h10]
theorem um_a13 {j x : Nat} : wup (mM Z ta al v) 13 0 (.inl (ta 3, 401, .inl (upd (fun j => nI (v 13 j)) j (nI x)))) = mM Z ta al (st v 13 j x) := by
  funext k' i'
  by_cases hk : k' = 13 ∧ i' = 0
  · obtain ⟨rfl, rfl⟩ := hk
    rw [wup_self]
    simp only [mM, cM, nI_up]
    simp [st]
  · rw [wup_ne hk]
    rcases (show k' = 10 ∨ k' = 11 ∨ k' = 12 ∨ k' = 13 ∨ k' = 14 ∨ k' = 15 ∨ k' = 16 ∨ k' = 17 ∨ k' = 18 ∨ k' = 19 ∨ k' = 20 ∨ k' = 21 ∨ k' = 22 ∨ k' = 23 ∨ k' = 24 ∨ k' = 25 ∨ ¬ (10 ≤ k' ∧ k' < 26) by omega) with rfl | rfl | rfl | rfl | rfl | rfl | rfl | rfl | rfl | rfl | rfl | rfl | rfl | rfl | rfl | rfl | h10
    · simp [mM, cM, st]
    · simp [mM, cM, st]
    · simp [mM, cM, st]
    · have hi : i' ≠ 0 := fun z => hk ⟨rfl, z⟩
      simp [mM, cM, hi]
    · simp [mM, cM, st]
    · simp [mM, cM, st]
    · simp [mM, cM, st]
    · simp [mM, cM, st]
    · simp [mM, cM, st]
    · simp [mM, cM, st]
    · simp [mM, cM, st]
    · simp [mM, cM, st]
    · simp [mM, cM, st]
    · simp [mM, cM, st]
    · simp [mM, cM, st]
    · simp [mM, cM, st]
    · simp [mM, h10]
theorem um_a14 {j x : Nat} : wup (mM Z ta al v) 14 0 (.inl (ta 3, 401, .inl (upd (fun j => nI (v 14 j)) j (nI x)))) = mM Z ta al (st v 14 j x) := by
  funext k' i'
  by_cases hk : k' = 14 ∧ i' = 0
  · obtain ⟨rfl, rfl⟩ := hk
    rw [wup_self]
    simp only [mM, cM, nI_up]
    simp [st]
  · rw [wup_ne hk]
    rcases (show k' = 10 ∨ k' = 11 ∨ k' = 12 ∨ k' = 13 ∨ k' = 14 ∨ k' = 15 ∨ k' = 16 ∨ k' = 17 ∨ k' = 18 ∨ k' = 19 ∨ k' = 20 ∨ k' = 21 ∨ k' = 22 ∨ k' = 23 ∨ k' = 24 ∨ k' = 25 ∨ ¬ (10 ≤ k' ∧ k' < 26) by omega) with rfl | rfl | rfl | rfl | rfl | rfl | rfl | rfl | rfl | rfl | rfl | rfl | rfl | rfl | rfl | rfl | h10
    · simp [mM, cM, st]
    · simp [mM, cM, st]
    · simp [mM, cM, st]
    · simp [mM, cM, st]
    · have hi : i' ≠ 0 := fun z => hk ⟨rfl, z⟩
      simp [mM, cM, hi]
    · simp [mM, cM, st]
    · simp [mM, cM, st]
    · simp [mM, cM, st]
    · simp [mM, cM, st]
    · simp [mM, cM, st]
    · simp [mM, cM, st]
    · simp [mM, cM, st]
    · simp [mM, cM, st]
    · simp [mM, cM, st]
    · simp [mM, cM, st]
    · simp [mM, cM, st]
    · simp [mM, h10]
theorem um_a15 {j x : Nat} : wup (mM Z ta al v) 15 0 (.inl (ta 3, 401, .inl (upd (fun j => nI (v 15 j)) j (nI x)))) = mM Z ta al (st v 15 j x) := by
  funext k' i'
  by_cases hk : k' = 15 ∧ i' = 0
  · obtain ⟨rfl, rfl⟩ := hk
    rw [wup_self]
    simp only [mM, cM, nI_up]
    simp [st]
  · rw [wup_ne hk]
    rcases (show k' = 10 ∨ k' = 11 ∨ k' = 12 ∨ k' = 13 ∨ k' = 14 ∨ k' = 15 ∨ k' = 16 ∨ k' = 17 ∨ k' = 18 ∨ k' = 19 ∨ k' = 20 ∨ k' = 21 ∨ k' = 22 ∨ k' = 23 ∨ k' = 24 ∨ k' = 25 ∨ ¬ (10 ≤ k' ∧ k' < 26) by omega) with rfl | rfl | rfl | rfl | rfl | rfl | rfl | rfl | rfl | rfl | rfl | rfl | rfl | rfl | rfl | rfl | h10
    · simp [mM, cM, st]
    · simp [mM, cM, st]
    · simp [mM, cM, st]
    · simp [mM, cM, st]
    · simp [mM, cM, st]
    · have hi : i' ≠ 0 := fun z => hk ⟨rfl, z⟩
      simp [mM, cM, hi]
    · simp [mM, cM, st]
    · simp [mM, cM, st]
    · simp [mM, cM, st]
    · simp [mM, cM, st]
    · simp [mM, cM, st]
    · simp [mM, cM, st]
    · simp [mM, cM, st]
    · simp [mM, cM, st]
    · simp [mM, cM, st]
    · simp [mM, cM, st]
    · simp [mM, h10]
theorem um_a16 {j x : Nat} : wup (mM Z ta al v) 16 0 (.inl (ta 3, 401, .inl (upd (fun j => nI (v 16 j)) j (nI x)))) = mM Z ta al (st v 16 j x) := by
  funext k' i'
  by_cases hk : k' = 16 ∧ i' = 0
  · obtain ⟨rfl, rfl⟩ := hk
    rw [wup_self]
    simp only [mM, cM, nI_up]
    simp [st]
  · rw [wup_ne hk]
    rcases (show k' = 10 ∨ k' = 11 ∨ k' = 12 ∨ k' = 13 ∨ k' = 14 ∨ k' = 15 ∨ k' = 16 ∨ k' = 17 ∨ k' = 18 ∨ k' = 19 ∨ k' = 20 ∨ k' = 21 ∨ k' = 22 ∨ k' = 23 ∨ k' = 24 ∨ k' = 25 ∨ ¬ (10 ≤ k' ∧ k' < 26) by omega) with rfl | rfl | rfl | rfl | rfl | rfl | rfl | rfl | rfl | rfl | rfl | rfl | rfl | rfl | rfl | rfl | h10
    · simp [mM, cM, st]
    · simp [mM, cM, st]
    · simp [mM, cM, st]
    · simp [mM, cM, st]
    · simp [mM, cM, st]
    · simp [mM, cM, st]
    · have hi : i' ≠ 0 := fun z => hk ⟨rfl, z⟩
      simp [mM, cM, hi]
    · simp [mM, cM, st]
    · simp [mM, cM, st]
    · simp [mM, cM, st]
    · simp [mM, cM, st]
    · simp [mM, cM, st]
    · simp [mM, cM, st]
    · simp [mM, cM, st]
    · simp [mM, cM, st]
    · simp [mM, cM, st]
    · simp [mM, h10]
theorem um_a17 {j x : Nat} : wup (mM Z ta al v) 17 0 (.inl (ta 3, 401, .inl (upd (fun j => nI (v 17 j)) j (nI x)))) = mM Z ta al (st v 17 j x) := by
  funext k' i'
  by_cases hk : k' = 17 ∧ i' = 0
  · obtain ⟨rfl, rfl⟩ := hk
    rw [wup_self]
    simp only [mM, cM, nI_up]
    simp [st]
  · rw [wup_ne hk]
    rcases (show k' = 10 ∨ k' = 11 ∨ k' = 12 ∨ k' = 13 ∨ k' = 14 ∨ k' = 15 ∨ k' = 16 ∨ k' = 17 ∨ k' = 18 ∨ k' = 19 ∨ k' = 20 ∨ k' = 21 ∨ k' = 22 ∨ k' = 23 ∨ k' = 24 ∨ k' = 25 ∨ ¬ (10 ≤ k' ∧ k' < 26) by omega) with rfl | rfl | rfl | rfl | rfl | rfl | rfl | rfl | rfl | rfl | rfl | rfl | rfl | rfl | rfl | rfl | h10
    · simp [mM, cM, st]
    · simp [mM, cM, st]
    · simp [mM, cM, st]
    · simp [mM, cM, st]
    · simp [mM, cM, st]
    · simp [mM, cM, st]
    · simp [mM, cM, st]
    · have hi : i' ≠ 0 := fun z => hk ⟨rfl, z⟩
      simp [mM, cM, hi]
    · simp [mM, cM, st]
    · simp [mM, cM, st]
    · simp [mM, cM, st]
    · simp [mM, cM, st]
    · simp [mM, cM, st]
    · simp [mM, cM, st]
    · simp [mM, cM, st]
    · simp [mM, cM, st]
    · simp [mM, h10]
theorem um_a18 {j x : Nat} : wup (mM Z ta al v) 18 0 (.inl (ta 3, 401, .inl (upd (fun j => nI (v 18 j)) j (nI x)))) = mM Z ta al (st v 18 j x) := by
  funext k' i'
  by_cases hk : k' = 18 ∧ i' = 0
  · obtain ⟨rfl, rfl⟩ := hk
    rw [wup_self]
    simp only [mM, cM, nI_up]
    simp [st]
  · rw [wup_ne hk]
    rcases (show k' = 10 ∨ k' = 11 ∨ k' = 12 ∨ k' = 13 ∨ k' = 14 ∨ k' = 15 ∨ k' = 16 ∨ k' = 17 ∨ k' = 18 ∨ k' = 19 ∨ k' = 20 ∨ k' = 21 ∨ k' = 22 ∨ k' = 23 ∨ k' = 24 ∨ k' = 25 ∨ ¬ (10 ≤ k' ∧ k' < 26) by omega) with rfl | rfl | rfl | rfl | rfl | rfl | rfl | rfl | rfl | rfl | rfl | rfl | rfl | rfl | rfl | rfl | h10
    · simp [mM, cM, st]
    · simp [mM, cM, st]
    · simp [mM, cM, st]
    · simp [mM, cM, st]
    · simp [mM, cM, st]
    · simp [mM, cM, st]
    · simp [mM, cM, st]
    · simp [mM, cM, st]
    · have hi : i' ≠ 0 := fun z => hk ⟨rfl, z⟩
      simp [mM, cM, hi]
    · simp [mM, cM, st]
    · simp [mM, cM, st]
    · simp [mM, cM, st]
    · simp [mM, cM, st]
    · simp [mM, cM, st]
    · simp [mM, cM, st]
    · simp [mM, cM, st]
    · simp [mM, h10]
theorem um_a19 {j x : Nat} : wup (mM Z ta al v) 19 0 (.inl (ta 4, 4, .inr (.inl (vp_updL (fun j => lN (v 19 j)) j (lN x))))) = mM Z ta al (st v 19 j x) := by
  funext k' i'
  by_cases hk : k' = 19 ∧ i' = 0
  · obtain ⟨rfl, rfl⟩ := hk
    rw [wup_self]
    simp only [mM, cM, lN_up]
    simp [st]
  · rw [wup_ne hk]
    rcases (show k' = 10 ∨ k' = 11 ∨ k' = 12 ∨ k' = 13 ∨ k' = 14 ∨ k' = 15 ∨ k' = 16 ∨ k' = 17 ∨ k' = 18 ∨ k' = 19 ∨ k' = 20 ∨ k' = 21 ∨ k' = 22 ∨ k' = 23 ∨ k' = 24 ∨ k' = 25 ∨ ¬ (10 ≤ k' ∧ k' < 26) by omega) with rfl | rfl | rfl | rfl | rfl | rfl | rfl | rfl | rfl | rfl | rfl | rfl | rfl | rfl | rfl | rfl | h10
    · simp [mM, cM, st]
    · simp [mM, cM, st]
    · simp [mM, cM, st]
    · simp [mM, cM, st]
    · simp [mM, cM, st]
    · simp [mM, cM, st]
    · simp [mM, cM, st]
    · simp [mM, cM, st]
    · simp [mM, cM, st]
    · have hi : i' ≠ 0 := fun z => hk ⟨rfl, z⟩
      simp [mM, cM, hi]
    · simp [mM, cM, st]
    · simp [mM, cM, st]
    · simp [mM, cM, st]
    · simp [mM, cM, st]
    · simp [mM, cM, st]
    · simp [mM, cM, st]
    · simp [mM, h10]
theorem um_a20 {j x : Nat} : wup (mM Z ta al v) 20 0 (.inl (ta 3, 16, .inl (upd (fun j => nI (v 20 j)) j (nI x)))) = mM Z ta al (st v 20 j x) := by
  funext k' i'
  by_cases hk : k' = 20 ∧ i' = 0
  · obtain ⟨rfl, rfl⟩ := hk
    rw [wup_self]
    simp only [mM, cM, nI_up]
    simp [st]
  · rw [wup_ne hk]
    rcases (show k' = 10 ∨ k' = 11 ∨ k' = 12 ∨ k' = 13 ∨ k' = 14 ∨ k' = 15 ∨ k' = 16 ∨ k' = 17 ∨ k' = 18 ∨ k' = 19 ∨ k' = 20 ∨ k' = 21 ∨ k' = 22 ∨ k' = 23 ∨ k' = 24 ∨ k' = 25 ∨ ¬ (10 ≤ k' ∧ k' < 26) by omega) with rfl | rfl | rfl | rfl | rfl | rfl | rfl | rfl | rfl | rfl | rfl | rfl | rfl | rfl | rfl | rfl | h10
    · simp [mM, cM, st]
    · simp [mM, cM, st]
    · simp [mM, cM, st]
    · simp [mM, cM, st]
    · simp [mM, cM, st]
    · simp [mM, cM, st]
    · simp [mM, cM, st]
    · simp [mM, cM, st]
    · simp [mM, cM, st]
    · simp [mM, cM, st]
    · have hi : i' ≠ 0 := fun z => hk ⟨rfl, z⟩
      simp [mM, cM, hi]
    · simp [mM, cM, st]
    · simp [mM, cM, st]
    · simp [mM, cM, st]
    · simp [mM, cM, st]
    · simp [mM, cM, st]
    · simp [mM, h10]
theorem um_a21 {j x : Nat} : wup (mM Z ta al v) 21 0 (.inl (ta 5, 16, .inl (upd (fun j => nI (v 21 j)) j (nI x)))) = mM Z ta al (st v 21 j x) := by
  funext k' i'
  by_cases hk : k' = 21 ∧ i' = 0
  · obtain ⟨rfl, rfl⟩ := hk
    rw [wup_self]
    simp only [mM, cM, nI_up]
    simp [st]
  · rw [wup_ne hk]
    rcases (show k' = 10 ∨ k' = 11 ∨ k' = 12 ∨ k' = 13 ∨ k' = 14 ∨ k' = 15 ∨ k' = 16 ∨ k' = 17 ∨ k' = 18 ∨ k' = 19 ∨ k' = 20 ∨ k' = 21 ∨ k' = 22 ∨ k' = 23 ∨ k' = 24 ∨ k' = 25 ∨ ¬ (10 ≤ k' ∧ k' < 26) by omega) with rfl | rfl | rfl | rfl | rfl | rfl | rfl | rfl | rfl | rfl | rfl | rfl | rfl | rfl | rfl | rfl | h10
    · simp [mM, cM, st]
    · simp [mM, cM, st]
    · simp [mM, cM, st]
    · simp [mM, cM, st]
    · simp [mM, cM, st]
    · simp [mM, cM, st]
    · simp [mM, cM, st]
    · simp [mM, cM, st]
    · simp [mM, cM, st]
    · simp [mM, cM, st]
    · simp [mM, cM, st]
    · have hi : i' ≠ 0 := fun z => hk ⟨rfl, z⟩
      simp [mM, cM, hi]
    · simp [mM, cM, st]
    · simp [mM, cM, st]
    · simp [mM, cM, st]
    · simp [mM, cM, st]
    · simp [mM, h10]
theorem um_a22 {j x : Nat} : wup (mM Z ta al v) 22 0 (.inl (ta 3, 400, .inl (upd (fun j => nI (v 22 j)) j (nI x)))) = mM Z ta al (st v 22 j x) := by
  funext k' i'
  by_cases hk : k' = 22 ∧ i' = 0
  · obtain ⟨rfl, rfl⟩ := hk
    rw [wup_self]
    simp only [mM, cM, nI_up]
    simp [st]
  · rw [wup_ne hk]
    rcases (show k' = 10 ∨ k' = 11 ∨ k' = 12 ∨ k' = 13 ∨ k' = 14 ∨ k' = 15 ∨ k' = 16 ∨ k' = 17 ∨ k' = 18 ∨ k' = 19 ∨ k' = 20 ∨ k' = 21 ∨ k' = 22 ∨ k' = 23 ∨ k' = 24 ∨ k' = 25 ∨ ¬ (10 ≤ k' ∧ k' < 26) by omega) with rfl | rfl | rfl | rfl | rfl | rfl | rfl | rfl | rfl | rfl | rfl | rfl | rfl | rfl | rfl | rfl | h10
    · simp [mM, cM, st]
    · simp [mM, cM, st]
    · simp [mM, cM, st]
    · simp [mM, cM, st]
    · simp [mM, cM, st]
    · simp [mM, cM, st]
    · simp [mM, cM, st]
    · simp [mM, cM, st]
    · simp [mM, cM, st]
    · simp [mM, cM, st]
    · simp [mM, cM, st]
    · simp [mM, cM, st]
    · have hi : i' ≠ 0 := fun z => hk ⟨rfl, z⟩
      simp [mM, cM, hi]
    · simp [mM, cM, st]
    · simp [mM, cM, st]
    · simp [mM, cM, st]
    · simp [mM, h10]
theorem um_a23 {j x : Nat} : wup (mM Z ta al v) 23 0 (.inl (ta 3, 400, .inl (upd (fun j => nI (v 23 j)) j (nI x)))) = mM Z ta al (st v 23 j x) := by
  funext k' i'
  by_cases hk : k' = 23 ∧ i' = 0
  · obtain ⟨rfl, rfl⟩ := hk
    rw [wup_self]
    simp only [mM, cM, nI_up]
    simp [st]
  · rw [wup_ne hk]
    rcases (show k' = 10 ∨ k' = 11 ∨ k' = 12 ∨ k' = 13 ∨ k' = 14 ∨ k' = 15 ∨ k' = 16 ∨ k' = 17 ∨ k' = 18 ∨ k' = 19 ∨ k' = 20 ∨ k' = 21 ∨ k' = 22 ∨ k' = 23 ∨ k' = 24 ∨ k' = 25 ∨ ¬ (10 ≤ k' ∧ k' < 26) by omega) with rfl | rfl | rfl | rfl | rfl | rfl | rfl | rfl | rfl | rfl | rfl | rfl | rfl | rfl | rfl | rfl | h10
    · simp [mM, cM, st]
    · simp [mM, cM, st]
    · simp [mM, cM, st]
    · simp [mM, cM, st]
    · simp [mM, cM, st]
    · simp [mM, cM, st]
    · simp [mM, cM, st]
    · simp [mM, cM, st]
    · simp [mM, cM, st]
    · simp [mM, cM, st]
    · simp [mM, cM, st]
    · simp [mM, cM, st]
    · simp [mM, cM, st]
    · have hi : i' ≠ 0 := fun z => hk ⟨rfl, z⟩
      simp [mM, cM, hi]
    · simp [mM, cM, st]
    · simp [mM, cM, st]
    · simp [mM, h10]
theorem um_a24 {j x : Nat} : wup (mM Z ta al v) 24 0 (.inl (ta 3, 400, .inl (upd (fun j => nI (v 24 j)) j (nI x)))) = mM Z ta al (st v 24 j x) := by
  funext k' i'
  by_cases hk : k' = 24 ∧ i' = 0
  · obtain ⟨rfl, rfl⟩ := hk
    rw [wup_self]
    simp only [mM, cM, nI_up]
    simp [st]
  · rw [wup_ne hk]
    rcases (show k' = 10 ∨ k' = 11 ∨ k' = 12 ∨ k' = 13 ∨ k' = 14 ∨ k' = 15 ∨ k' = 16 ∨ k' = 17 ∨ k' = 18 ∨ k' = 19 ∨ k' = 20 ∨ k' = 21 ∨ k' = 22 ∨ k' = 23 ∨ k' = 24 ∨ k' = 25 ∨ ¬ (10 ≤ k' ∧ k' < 26) by omega) with rfl | rfl | rfl | rfl | rfl | rfl | rfl | rfl | rfl | rfl | rfl | rfl | rfl | rfl | rfl | rfl | h10
    · simp [mM, cM, st]
    · simp [mM, cM, st]
    · simp [mM, cM, st]
    · simp [mM, cM, st]
    · simp [mM, cM, st]
    · simp [mM, cM, st]
    · simp [mM, cM, st]
    · simp [mM, cM, st]
    · simp [mM, cM, st]
    · simp [mM, cM, st]
    · simp [mM, cM, st]
    · simp [mM, cM, st]
    · simp [mM, cM, st]
    · simp [mM, cM, st]
    · have hi : i' ≠ 0 := fun z => hk ⟨rfl, z⟩
      simp [mM, cM, hi]
    · simp [mM, cM, st]
    · simp [mM, h10]
theorem um_a25 {j x : Nat} : wup (mM Z ta al v) 25 0 (.inl (ta 5, 4, .inl (upd (fun j => nI (v 25 j)) j (nI x)))) = mM Z ta al (st v 25 j x) := by
  funext k' i'
  by_cases hk : k' = 25 ∧ i' = 0
  · obtain ⟨rfl, rfl⟩ := hk
    rw [wup_self]
    simp only [mM, cM, nI_up]
    simp [st]
  · rw [wup_ne hk]
    rcases (show k' = 10 ∨ k' = 11 ∨ k' = 12 ∨ k' = 13 ∨ k' = 14 ∨ k' = 15 ∨ k' = 16 ∨ k' = 17 ∨ k' = 18 ∨ k' = 19 ∨ k' = 20 ∨ k' = 21 ∨ k' = 22 ∨ k' = 23 ∨ k' = 24 ∨ k' = 25 ∨ ¬ (10 ≤ k' ∧ k' < 26) by omega) with rfl | rfl | rfl | rfl | rfl | rfl | rfl | rfl | rfl | rfl | rfl | rfl | rfl | rfl | rfl | rfl | h10
    · simp [mM, cM, st]
    · simp [mM, cM, st]
    · simp [mM, cM, st]
    · simp [mM, cM, st]
    · simp [mM, cM, st]
    · simp [mM, cM, st]
    · simp [mM, cM, st]
    · simp [mM, cM, st]
    · simp [mM, cM, st]
    · simp [mM, cM, st]
    · simp [mM, cM, st]
    · simp [mM, cM, st]
    · simp [mM, cM, st]
    · simp [mM, cM, st]
    · simp [mM, cM, st]
    · have hi : i' ≠ 0 := fun z => hk ⟨rfl, z⟩
      simp [mM, cM, hi]
    · simp [mM, h10]
end GS
theorem mC_mM {Z : Wo} {ta : Nat → ClassId} {pl : Nat → Nat} {al : Ad} {u v : St} : mC (mM Z ta al v) ta pl al u = mM (mC Z ta pl al u) ta al v := by
  funext k i
  by_cases h : k < 10
  · simp [mC, mM, h, show ¬ 10 ≤ k by omega]
  · simp [mC, mM, h]
end
section
/-! helpers of the walk -/
theorem nI_inc {a k : Nat} {n : Int} (h : Int32.ofInt n = nI k) : nI a + Int32.ofInt n = nI (a + k) := by rw [h, nI_add]
theorem nI_m1 {a : Nat} (h : 1 ≤ a) : nI a + Int32.ofInt (-1) = nI (a - 1) := by
  obtain ⟨b, rfl⟩ : ∃ b, a = b + 1 := ⟨a - 1, by omega⟩
  rw [show Int32.ofInt (-1) = (-1 : Int32) by decide, pk_m1, Nat.add_sub_cancel]
theorem bN_fit {P : Prop} [Decidable P] : fits .boolean (.int (nI (bN P))) = true := by
  unfold bN; by_cases h : P
  · simp only [h, if_true]; decide
  · simp only [h, if_false]; decide
theorem plI {D : va_G} {ta : Nat → ClassId} {pl : Nat → Nat} {bs : Nat} {s : State} (h : En D ta pl bs s) {a b : Nat} (ha : a < 4) (hb : b < 4) : pl a = pl b ↔ a = b := ⟨h.2.2.2.1 a b ha hb, fun z => by rw [z]⟩
theorem ar2 {al : Ad} {j : Nat} (h : j < 4) : va_rf ((fun j => if j < 4 then some (al 3 (j + 1)) else none) j) = .ref (al 3 (j + 1)) := by
  show va_rf (if j < 4 then some (al 3 (j + 1)) else none) = _
  rw [if_pos h]; rfl
theorem ar5 {al : Ad} {j : Nat} (h : j < 16) : va_rf ((fun j => if j < 16 then some (al 6 j) else none) j) = .ref (al 6 j) := by
  show va_rf (if j < 16 then some (al 6 j) else none) = _
  rw [if_pos h]; rfl
theorem upr {al : Ad} {C C1 : Wo} {k i n j x : Nat} {cA : ClassId} {f : Nat → Option Nat} (hx : x ≠ 0) (h : wup C k i (.inl (cA, n, .inr (.inr (.inr (.inr (va_up f j (rI al x))))))) = C1) : wup C k i (.inl (cA, n, .inr (.inr (.inr (.inr (va_up f j (some (al 9 x)))))))) = C1 := by
  rw [rI_pos hx] at h; exact h
theorem up0 {al : Ad} {C C1 : Wo} {k i n j : Nat} {cA : ClassId} {f : Nat → Option Nat} (h : wup C k i (.inl (cA, n, .inr (.inr (.inr (.inr (va_up f j (rI al 0))))))) = C1) : wup C k i (.inl (cA, n, .inr (.inr (.inr (.inr (va_up f j none)))))) = C1 := h
theorem lg_ge {x y : Int64} : 0 ≤ lg_cmp x y ↔ ¬ x < y := by
  unfold lg_cmp
  by_cases h : y < x
  · have : ¬ x < y := fun z => by
      rw [Int64.lt_iff_toInt_lt] at h z; omega
    simp [h, this]
  · by_cases h2 : x < y
    · have : ¬ x = y := fun z => by rw [z, Int64.lt_iff_toInt_lt] at h2; omega
      simp [h, h2, this]
    · have : x = y := by
        rw [Int64.lt_iff_toInt_lt] at h h2
        exact Int64.toInt_inj.mp (by omega)
      simp [this]
/-! THE CLASS, as functions of its state. u 0 trays, 1 rounds allowed, 2 items, 3 gone, 4 carried, 5 moves a step, 6 time, 7 shift; 8 carriedBy, 9 items, 10 gone; 12 waiting, 13 putOn, 14 hadTurn (inducts 1 .. 4), 40 + n the row of induct n; 18 lying, 19 heldShut; 21 length, 22 chute, 23 place, 24 ownTray, 25 rounds, 26 outChute, 27 outTime; 30 how many items have been made -/
def tA (u : St) (q : Nat) : Nat := if q < u 7 0 then q + u 0 0 - u 7 0 else q - u 7 0
def tB (u : St) (t : Nat) : Nat := if 0 < t then t - 1 else u 0 0 - 1
def setTr (u : St) (i x : Nat) : St := if nI (st u 8 (u 24 i) x 21 i) = nI 2 then st (st u 8 (u 24 i) x) 8 (tB (st u 8 (u 24 i) x) (st u 8 (u 24 i) x 24 i)) x else st u 8 (u 24 i) x
theorem setTr_ne {u : St} {i x f j : Nat} (h : f ≠ 8) : setTr u i x f j = u f j := by
  unfold setTr
  split
  · rw [st_nf h, st_nf h]
  · rw [st_nf h]
def letOut (u : St) (i c : Nat) : St :=
  let u1 := setTr u i 0
  let u2 := st u1 4 0 (u1 4 0 - 1)
  let u3 := st u2 18 c (u2 18 c + 1)
  let u4 := st u3 23 i 3
  let u5 := st u4 26 i c
  let u6 := st u5 27 i (u5 6 0)
  let u7 := st u6 10 (u6 3 0) i
  st u7 3 0 (u7 3 0 + 1)
theorem letOut_k {u : St} {i c f j : Nat} (h : f = 0 ∨ f = 30 ∨ f = 1 ∨ f = 5 ∨ f = 7) : letOut u i c f j = u f j := by
  unfold letOut
  rcases h with rfl | rfl | rfl | rfl | rfl <;> simp [st, setTr_ne]
abbrev roomy (u : St) (c : Nat) : Prop := c = 15 ∨ (nI (u 19 c) = 0 ∧ ¬ nI 10 ≤ nI (u 18 c))
abbrev stays (u : St) (i c : Nat) : Prop := ¬ nI (u 22 i) = nI c ∧ ¬ (c = 15 ∧ ¬ nI (u 25 i) < nI (u 1 0))
def passC (u : St) (i c : Nat) : St := if stays u i c then u else if roomy u c then letOut u i c else if nI (u 22 i) = nI c then st u 25 i (u 25 i + 1) else u
theorem passC_k {u : St} {i c f j : Nat} (h : f = 0 ∨ f = 30 ∨ f = 1 ∨ f = 5 ∨ f = 7) : passC u i c f j = u f j := by
  unfold passC
  split
  · rfl
  · split
    · exact letOut_k h
    · split
      · rcases h with rfl | rfl | rfl | rfl | rfl <;> simp [st]
      · rfl
abbrev pos6 (u : St) (c : Nat) : Nat := (c * u 0 0 + u 0 0 / 2) / 16
def passOne (u : St) (c : Nat) : St := if u 8 (tA u (pos6 u c)) ≠ 0 ∧ u 24 (u 8 (tA u (pos6 u c))) = tA u (pos6 u c) ∧ u 23 (u 8 (tA u (pos6 u c))) = 1 then passC u (u 8 (tA u (pos6 u c))) c else u
theorem passOne_k {u : St} {c f j : Nat} (h : f = 0 ∨ f = 30 ∨ f = 1 ∨ f = 5 ∨ f = 7) : passOne u c f j = u f j := by
  unfold passOne
  split
  · exact passC_k h
  · rfl
def passN : Nat → St → St
  | 0, u => u
  | n + 1, u => passOne (passN n u) n
theorem passN_k {n : Nat} {u : St} {f j : Nat} (h : f = 0 ∨ f = 30 ∨ f = 1 ∨ f = 5 ∨ f = 7) : passN n u f j = u f j := by
  induction n with
  | zero => rfl
  | succ n ih => show passOne (passN n u) n f j = _; rw [passOne_k h, ih]
def shf (u : St) : St := st u 7 0 (if u 7 0 + 1 < u 0 0 then u 7 0 + 1 else 0)
def moveOne (u : St) : St := if 0 < shf u 4 0 then passN 16 (shf u) else shf u
def moveN : Nat → St → St
  | 0, u => u
  | n + 1, u => moveOne (moveN n u)
/-- the row of induct n, the first k places moved up -/
def rowUp (n : Nat) : Nat → St → St
  | 0, u => u
  | k + 1, u => st (rowUp n k u) (40 + n) k (rowUp n k u (40 + n) (k + 1))
def remF (u : St) (n : Nat) : St :=
  let u1 := st u 12 n (u 12 n - 1)
  st (rowUp n (u1 12 n) u1) (40 + n) (u1 12 n) 0
abbrev freeFor (u : St) (i t : Nat) : Prop := u 8 t = 0 ∧ (nI (u 21 i) < nI 2 ∨ (¬ nI (u 0 0) ≤ nI 1 ∧ u 8 (tB u t) = 0))
abbrev pos3 (u : St) (n : Nat) : Nat := (n - 1) * u 0 0 / 4
def putF (u : St) (n : Nat) : St :=
  if u 12 n = 0 then u else if freeFor u (u (40 + n) 0) (tA u (pos3 u n)) then
    let i := u (40 + n) 0
    let t := tA u (pos3 u n)
    let u1 := remF u n
    let u2 := st u1 13 n (u1 13 n + 1)
    let u3 := st u2 24 i t
    let u4 := st u3 23 i 1
    let u5 := setTr u4 i i
    st u5 4 0 (u5 4 0 + 1)
  else u
/-- which induct is next (0: none), of the first k -/
def nxT (u : St) : Nat → Nat
  | 0 => 0
  | k + 1 => if nI (u 14 (k + 1)) = 0 ∧ (nxT u k = 0 ∨ lN (u 13 (k + 1)) < lN (u 13 (nxT u k))) then k + 1 else nxT u k
def clrN : Nat → St → St
  | 0, u => u
  | k + 1, u => st (clrN k u) 14 (k + 1) 0
def turnOne (u : St) : St := if nxT u 4 = 0 then u else putF (st u 14 (nxT u 4) 1) (nxT u 4)
def turnN : Nat → St → St
  | 0, u => u
  | k + 1, u => turnOne (turnN k u)
def takeT (u : St) : St := turnN 4 (clrN 4 u)
def runOne (u : St) : St := takeT (st (moveN (u 5 0) u) 6 0 (moveN (u 5 0) u 6 0 + 1))
def runN : Nat → St → St
  | 0, u => u
  | n + 1, u => runOne (runN n u)
theorem bN_1 {P : Prop} [Decidable P] (h : P) : 1 = bN P := by simp [bN, h]
theorem bN_0 {P : Prop} [Decidable P] (h : ¬ P) : 0 = bN P := by simp [bN, h]
abbrev inR (x : Int32) (n : Nat) : Prop := ¬ x < 0 ∧ ¬ nI n ≤ x
theorem wrapT {q s T : Nat} (h : q < s) (h2 : s ≤ q + T) : nI q - nI s + nI T = nI (q + T - s) := by
  obtain ⟨d, hd⟩ : ∃ d, q + T = d + s := ⟨q + T - s, by omega⟩
  rw [hd, Nat.add_sub_cancel]
  have : nI q + nI T = nI d + nI s := by rw [nI_add, nI_add, hd]
  have h3 : nI q - nI s + nI T = nI q + nI T - nI s := by
    rw [Int32.sub_eq_add_neg, Int32.sub_eq_add_neg, Int32.add_assoc, Int32.add_assoc, Int32.add_comm (-nI s)]
  rw [h3, this, Int32.add_sub_cancel]
theorem rowUp_k {n k : Nat} {u : St} {f j : Nat} (h : f ≠ 40 + n) : rowUp n k u f j = u f j := by
  induction k with
  | zero => rfl
  | succ k ih => show st _ _ _ _ f j = _; rw [st_nf h, ih]
theorem rowUp_hi {n k : Nat} {u : St} {j : Nat} (h : k ≤ j) : rowUp n k u (40 + n) j = u (40 + n) j := by
  induction k with
  | zero => rfl
  | succ k ih => show st _ _ _ _ _ j = _; rw [st_ni (by omega), ih (by omega)]
theorem remF_k {u : St} {n f j : Nat} (h : f ≠ 40 + n) (h2 : f ≠ 12) : remF u n f j = u f j := by
  show st _ _ _ _ f j = _
  rw [st_nf h, rowUp_k h, st_nf h2]
theorem tB_lt {u : St} {t : Nat} (h : t < u 0 0) : tB u t < u 0 0 := by unfold tB; split <;> omega
theorem tA_lt {u : St} {q : Nat} (h : q < u 0 0) (h2 : u 7 0 < u 0 0) : tA u q < u 0 0 := by unfold tA; split <;> omega
theorem pos6_lt {c T : Nat} (hc : c < 16) (h1 : 1 ≤ T) (h2 : T ≤ 200) : (c * T + T / 2) / 16 < T := by
  have : c * T ≤ 15 * T := Nat.mul_le_mul_right T (by omega)
  omega
theorem pos3_lt {n T : Nat} (h : 1 ≤ n ∧ n ≤ 4) (h1 : 1 ≤ T) (h2 : T ≤ 200) : (n - 1) * T / 4 < T := by
  have : (n - 1) * T ≤ 3 * T := Nat.mul_le_mul_right T (by omega)
  omega
def addL (u : St) (n i : Nat) : St := st (st u (40 + n) (u 12 n) i) 12 n (st u (40 + n) (u 12 n) i 12 n + 1)
theorem passC_a {u : St} {i c : Nat} (h1 : ¬ nI (u 22 i) = nI c) (h2 : ¬ (c = 15 ∧ ¬ nI (u 25 i) < nI (u 1 0))) : u = passC u i c := by unfold passC; rw [if_pos ⟨h1, h2⟩]
theorem passC_b {u : St} {i c : Nat} (h1 : nI (u 22 i) = nI c) (h2 : roomy u c) : letOut u i c = passC u i c := by unfold passC; rw [if_neg (fun z => z.1 h1), if_pos h2]
theorem passC_e {u : St} {i c : Nat} (h0 : c = 15) (h1 : ¬ nI (u 25 i) < nI (u 1 0)) (h2 : roomy u c) : letOut u i c = passC u i c := by unfold passC; rw [if_neg (fun z => z.2 ⟨h0, h1⟩), if_pos h2]
theorem passC_c {u : St} {i c : Nat} (h1 : nI (u 22 i) = nI c) (h2 : ¬ roomy u c) : st u 25 i (u 25 i + 1) = passC u i c := by unfold passC; rw [if_neg (fun z => z.1 h1), if_neg h2, if_pos h1]
theorem passC_d {u : St} {i c : Nat} (h1 : ¬ nI (u 22 i) = nI c) (h2 : ¬ roomy u c) : u = passC u i c := by unfold passC; rw [if_neg h2, if_neg h1]; split <;> rfl
def rN (al : Ad) (n : Nat) : Value := if n = 0 then .null else .ref (al 3 n)
theorem rN_0 {al : Ad} {n : Nat} (h : n = 0) : rN al n = .null := if_pos h
theorem rN_p {al : Ad} {n : Nat} (h : n ≠ 0) : rN al n = .ref (al 3 n) := if_neg h
theorem inR_nI {j n : Nat} (h : j < n) (hn : n < 2 ^ 31) : inR (nI j) n := ⟨nI_pos (by omega), nI_ge h hn⟩
theorem addL_k {u : St} {n i f j : Nat} (h : f ≠ 12) (h2 : f ≠ 40 + n) : addL u n i f j = u f j := by
  unfold addL; rw [st_nf h, st_nf h2]
end
section
set_option maxRecDepth 100000 in
set_option maxHeartbeats 4000000 in
/-- isInduct -/
theorem c_isInduct {l : Launch} {D : va_G} {ta : Nat → ClassId} {pl : Nat → Nat} {bs : Nat} {al : Ad} {Z : Wo} {u : St} (x : Int32)  : GD l D ta pl bs yX4_isInduct wsX4_isInduct (rmF 0 0) [.int x] al (mC Z ta pl al u) (some (.int (nI (bN (inR x 4))))) (mC Z ta pl al u) := by
  refine GM.of (by decide) rfl (Nat.le_of_ble_eq_true rfl) ?_
  intro p e s m args below meth c X hnm
  refine g_lv (lv' := [(0, .int x)]) [0] rfl ?_
  refine g_iload_n X 0 dX4_isInduct_0 rfl rfl ?_
  refine g_if_lt X 13 dX4_isInduct_1 (by decide) (Iff.rfl) (fun c_1 => ?_) (fun c_1 => ?_)
  · refine g_iconst X (v := nI 0) dX4_isInduct_13 (by decide) ?_
    exact g_zret X rfl dX4_isInduct_14 (by decide) ⟨congrArg (fun n => some (Value.int (nI n))) (bN_0 (by first | omega | simp [inR, c_1])), rfl, rfl⟩
  · refine g_iload_n X 0 dX4_isInduct_4 rfl rfl ?_
    refine g_iconst X (v := nI 4) dX4_isInduct_5 (by decide) ?_
    refine g_icmp_ge X 13 dX4_isInduct_6 (by decide) (Iff.rfl) (fun c_2 => ?_) (fun c_2 => ?_)
    · refine g_iconst X (v := nI 0) dX4_isInduct_13 (by decide) ?_
      exact g_zret X rfl dX4_isInduct_14 (by decide) ⟨congrArg (fun n => some (Value.int (nI n))) (bN_0 (by first | omega | simp [inR, c_1, c_2])), rfl, rfl⟩
    · refine g_iconst X (v := nI 1) dX4_isInduct_9 (by decide) ?_
      refine g_goto X 14 dX4_isInduct_10 (by decide) ?_
      exact g_zret X rfl dX4_isInduct_14 (by decide) ⟨congrArg (fun n => some (Value.int (nI n))) (bN_1 (by first | omega | simp [inR, c_1, c_2])), rfl, rfl⟩

set_option maxRecDepth 100000 in
set_option maxHeartbeats 4000000 in
/-- isChute -/
theorem c_isChute {l : Launch} {D : va_G} {ta : Nat → ClassId} {pl : Nat → Nat} {bs : Nat} {al : Ad} {Z : Wo} {u : St} (x : Int32)  : GD l D ta pl bs yX4_isChute wsX4_isChute (rmF 0 0) [.int x] al (mC Z ta pl al u) (some (.int (nI (bN (inR x 16))))) (mC Z ta pl al u) := by
  refine GM.of (by decide) rfl (Nat.le_of_ble_eq_true rfl) ?_
  intro p e s m args below meth c X hnm
  refine g_lv (lv' := [(0, .int x)]) [0] rfl ?_
  refine g_iload_n X 0 dX4_isChute_0 rfl rfl ?_
  refine g_if_lt X 14 dX4_isChute_1 (by decide) (Iff.rfl) (fun c_1 => ?_) (fun c_1 => ?_)
  · refine g_iconst X (v := nI 0) dX4_isChute_14 (by decide) ?_
    exact g_zret X rfl dX4_isChute_15 (by decide) ⟨congrArg (fun n => some (Value.int (nI n))) (bN_0 (by first | omega | simp [inR, c_1])), rfl, rfl⟩
  · refine g_iload_n X 0 dX4_isChute_4 rfl rfl ?_
    refine g_bipush X (v := nI 16) dX4_isChute_5 (by decide) ?_
    refine g_icmp_ge X 14 dX4_isChute_7 (by decide) (Iff.rfl) (fun c_2 => ?_) (fun c_2 => ?_)
    · refine g_iconst X (v := nI 0) dX4_isChute_14 (by decide) ?_
      exact g_zret X rfl dX4_isChute_15 (by decide) ⟨congrArg (fun n => some (Value.int (nI n))) (bN_0 (by first | omega | simp [inR, c_1, c_2])), rfl, rfl⟩
    · refine g_iconst X (v := nI 1) dX4_isChute_10 (by decide) ?_
      refine g_goto X 15 dX4_isChute_11 (by decide) ?_
      exact g_zret X rfl dX4_isChute_15 (by decide) ⟨congrArg (fun n => some (Value.int (nI n))) (bN_1 (by first | omega | simp [inR, c_1, c_2])), rfl, rfl⟩

set_option maxRecDepth 100000 in
set_option maxHeartbeats 4000000 in
/-- isTray -/
theorem c_isTray {l : Launch} {D : va_G} {ta : Nat → ClassId} {pl : Nat → Nat} {bs : Nat} {al : Ad} {Z : Wo} {u : St} (x : Int32)  : GD l D ta pl bs yX4_isTray wsX4_isTray (rmF 0 0) [.ref (al 0 0), .int x] al (mC Z ta pl al u) (some (.int (nI (bN (inR x (u 0 0)))))) (mC Z ta pl al u) := by
  refine GM.of (by decide) rfl (Nat.le_of_ble_eq_true rfl) ?_
  intro p e s m args below meth c X hnm
  have hiX4 : ∀ w ∈ u_ws RX4 TX4 13, w ∈ wsX4_isTray := by decide +kernel
  refine g_lv (lv' := [(0, .ref (al 0 0)), (1, .int x)]) [0, 1] rfl ?_
  refine g_iload_n X 1 dX4_isTray_0 rfl rfl ?_
  refine g_if_lt X 16 dX4_isTray_1 (by decide) (Iff.rfl) (fun c_1 => ?_) (fun c_1 => ?_)
  · refine g_iconst X (v := nI 0) dX4_isTray_16 (by decide) ?_
    exact g_zret X rfl dX4_isTray_17 (by decide) ⟨congrArg (fun n => some (Value.int (nI n))) (bN_0 (by first | omega | simp [inR, c_1])), rfl, rfl⟩
  · refine g_iload_n X 1 dX4_isTray_4 rfl rfl ?_
    refine g_aload_n X 0 dX4_isTray_5 rfl rfl ?_
    refine g_get X 0 0 cx0 rfl 0 (by decide) hiX4 (by decide +kernel) rfl rfl dX4_isTray_6 ?_
    refine g_icmp_ge X 16 dX4_isTray_9 (by decide) (Iff.rfl) (fun c_2 => ?_) (fun c_2 => ?_)
    · refine g_iconst X (v := nI 0) dX4_isTray_16 (by decide) ?_
      exact g_zret X rfl dX4_isTray_17 (by decide) ⟨congrArg (fun n => some (Value.int (nI n))) (bN_0 (by first | omega | simp [inR, c_1, c_2])), rfl, rfl⟩
    · refine g_iconst X (v := nI 1) dX4_isTray_12 (by decide) ?_
      refine g_goto X 17 dX4_isTray_13 (by decide) ?_
      exact g_zret X rfl dX4_isTray_17 (by decide) ⟨congrArg (fun n => some (Value.int (nI n))) (bN_1 (by first | omega | simp [inR, c_1, c_2])), rfl, rfl⟩

set_option maxRecDepth 100000 in
set_option maxHeartbeats 4000000 in
/-- trayAt -/
theorem c_trayAt {l : Launch} {D : va_G} {ta : Nat → ClassId} {pl : Nat → Nat} {bs : Nat} {al : Ad} {Z : Wo} {u : St} (q : Nat) (h1 : 1 ≤ u 0 0) (h2 : u 0 0 ≤ 200) (h3 : u 7 0 < u 0 0) (h4 : q < u 0 0) : GD l D ta pl bs yX4_trayAt wsX4_trayAt (rmF 0 0) [.ref (al 0 0), .int (nI q)] al (mC Z ta pl al u) (some (.int (nI (tA u q)))) (mC Z ta pl al u) := by
  refine GM.of (by decide) rfl (Nat.le_of_ble_eq_true rfl) ?_
  intro p e s m args below meth c X hnm
  have hiX4 : ∀ w ∈ u_ws RX4 TX4 13, w ∈ wsX4_trayAt := by decide +kernel
  refine g_lv (lv' := [(0, .ref (al 0 0)), (1, .int (nI q))]) [0, 1] rfl ?_
  refine g_iload_n X 1 dX4_trayAt_0 rfl rfl ?_
  refine g_aload_n X 0 dX4_trayAt_1 rfl rfl ?_
  refine g_get X 0 0 cx0 rfl 12 (by decide) hiX4 (by decide +kernel) rfl rfl dX4_trayAt_2 ?_
  by_cases hq : u 7 0 ≤ q
  · refine g_isub X dX4_trayAt_5 (pk_sub (by omega)) ?_
    refine g_istore_n X [(2, .int (nI (q - (u 7 0)))), (0, .ref (al 0 0)), (1, .int (nI q))] dX4_trayAt_6 rfl (by decide) rfl ?_
    refine g_iload_n X 0 dX4_trayAt_7 rfl rfl ?_
    refine g_if_ge X 20 dX4_trayAt_8 (by decide) (n0_ge (by omega)) (fun c_1 => ?_) (fun c_1 => ?_)
    · refine g_iload_n X 0 dX4_trayAt_20 rfl rfl ?_
      exact g_iret X rfl dX4_trayAt_21 ⟨by rw [tA, if_neg (by omega)], rfl, rfl⟩
    · exact absurd trivial c_1
  · refine g_isub X dX4_trayAt_5 rfl ?_
    refine g_istore_n X [(2, .int (nI q - nI (u 7 0))), (0, .ref (al 0 0)), (1, .int (nI q))] dX4_trayAt_6 rfl (by decide) rfl ?_
    refine g_iload_n X 0 dX4_trayAt_7 rfl rfl ?_
    refine g_if_ge X 20 dX4_trayAt_8 (by decide) (Iff.rfl) (fun c_2 => ?_) (fun c_2 => ?_)
    · exact absurd c_2 (fun z => by have := pk_sneg (a := q) (b := u 7 0) (by omega) (by omega); rw [Int32.le_iff_toInt_le] at z; rw [Int32.lt_iff_toInt_lt] at this; omega)
    · refine g_iload_n X 0 dX4_trayAt_11 rfl rfl ?_
      refine g_aload_n X 1 dX4_trayAt_12 rfl rfl ?_
      refine g_get X 0 0 cx0 rfl 0 (by decide) hiX4 (by decide +kernel) rfl rfl dX4_trayAt_13 ?_
      refine g_iadd X dX4_trayAt_16 rfl ?_
      refine g_goto X 21 dX4_trayAt_17 (by decide) ?_
      exact g_iret X rfl dX4_trayAt_21 ⟨by rw [tA, if_pos (by omega), wrapT (by omega) (by omega)], rfl, rfl⟩

set_option maxRecDepth 100000 in
set_option maxHeartbeats 4000000 in
/-- trayBehind -/
theorem c_trayBehind {l : Launch} {D : va_G} {ta : Nat → ClassId} {pl : Nat → Nat} {bs : Nat} {al : Ad} {Z : Wo} {u : St} (t : Nat) (h1 : 1 ≤ u 0 0) (h2 : u 0 0 ≤ 200) (h4 : t < u 0 0) : GD l D ta pl bs yX4_trayBehind wsX4_trayBehind (rmF 0 0) [.ref (al 0 0), .int (nI t)] al (mC Z ta pl al u) (some (.int (nI (tB u t)))) (mC Z ta pl al u) := by
  refine GM.of (by decide) rfl (Nat.le_of_ble_eq_true rfl) ?_
  intro p e s m args below meth c X hnm
  have hiX4 : ∀ w ∈ u_ws RX4 TX4 13, w ∈ wsX4_trayBehind := by decide +kernel
  refine g_lv (lv' := [(0, .ref (al 0 0)), (1, .int (nI t))]) [0, 1] rfl ?_
  refine g_iload_n X 1 dX4_trayBehind_0 rfl rfl ?_
  refine g_if_le X 10 dX4_trayBehind_1 (by decide) (n0_le (by omega)) (fun c_1 => ?_) (fun c_1 => ?_)
  · refine g_aload_n X 0 dX4_trayBehind_10 rfl rfl ?_
    refine g_get X 0 0 cx0 rfl 0 (by decide) hiX4 (by decide +kernel) rfl rfl dX4_trayBehind_11 ?_
    refine g_iconst X (v := nI 1) dX4_trayBehind_14 (by decide) ?_
    refine g_isub X dX4_trayBehind_15 (pk_sub (by omega)) ?_
    exact g_iret X rfl dX4_trayBehind_16 ⟨by rw [tB, if_neg (by omega)], rfl, rfl⟩
  · refine g_iload_n X 1 dX4_trayBehind_4 rfl rfl ?_
    refine g_iconst X (v := nI 1) dX4_trayBehind_5 (by decide) ?_
    refine g_isub X dX4_trayBehind_6 (pk_sub (by omega)) ?_
    refine g_goto X 16 dX4_trayBehind_7 (by decide) ?_
    exact g_iret X rfl dX4_trayBehind_16 ⟨by rw [tB, if_pos (by omega)], rfl, rfl⟩

set_option maxRecDepth 100000 in
set_option maxHeartbeats 4000000 in
/-- hasRoom -/
theorem c_hasRoom {l : Launch} {D : va_G} {ta : Nat → ClassId} {pl : Nat → Nat} {bs : Nat} {al : Ad} {Z : Wo} {u : St} (c0 : Nat) (h1 : c0 < 16) : GD l D ta pl bs yX0_hasRoom wsX0_hasRoom (rmF 0 0) [.ref (al 6 c0)] al (mC Z ta pl al u) (some (.int (nI (bN (roomy u c0))))) (mC Z ta pl al u) := by
  refine GM.of (by decide) rfl (Nat.le_of_ble_eq_true rfl) ?_
  intro p e s m args below meth c X hnm
  have hiX0 : ∀ w ∈ u_ws RX0 TX0 4, w ∈ wsX0_hasRoom := by decide +kernel
  refine g_lv (lv' := [(0, .ref (al 6 c0))]) [0] rfl ?_
  refine g_aload_n X 0 dX0_hasRoom_0 rfl rfl ?_
  refine g_get X 6 c0 (cx6 (by omega)) rfl 1 (by decide) hiX0 (by decide +kernel) rfl rfl dX0_hasRoom_1 ?_
  refine g_if_ne X 23 dX0_hasRoom_4 (by decide) (bN_eq0) (fun c_1 => ?_) (fun c_1 => ?_)
  · have c_1 := Decidable.of_not_not c_1
    refine g_iconst X (v := nI 1) dX0_hasRoom_23 (by decide) ?_
    refine g_goto X 28 dX0_hasRoom_24 (by decide) ?_
    exact g_zret X rfl dX0_hasRoom_28 (by decide) ⟨congrArg (fun n => some (Value.int (nI n))) (bN_1 (by first | omega | simp [roomy, c_1])), rfl, rfl⟩
  · refine g_aload_n X 0 dX0_hasRoom_7 rfl rfl ?_
    refine g_get X 6 c0 (cx6 (by omega)) rfl 3 (by decide) hiX0 (by decide +kernel) rfl rfl dX0_hasRoom_8 ?_
    refine g_if_ne X 27 dX0_hasRoom_11 (by decide) (Iff.rfl) (fun c_2 => ?_) (fun c_2 => ?_)
    · refine g_iconst X (v := nI 0) dX0_hasRoom_27 (by decide) ?_
      exact g_zret X rfl dX0_hasRoom_28 (by decide) ⟨congrArg (fun n => some (Value.int (nI n))) (bN_0 (by first | omega | simp [roomy, c_1, c_2])), rfl, rfl⟩
    · refine g_aload_n X 0 dX0_hasRoom_14 rfl rfl ?_
      refine g_get X 6 c0 (cx6 (by omega)) rfl 2 (by decide) hiX0 (by decide +kernel) rfl rfl dX0_hasRoom_15 ?_
      refine g_bipush X (v := nI 10) dX0_hasRoom_18 (by decide) ?_
      refine g_icmp_ge X 27 dX0_hasRoom_20 (by decide) (Iff.rfl) (fun c_3 => ?_) (fun c_3 => ?_)
      · refine g_iconst X (v := nI 0) dX0_hasRoom_27 (by decide) ?_
        exact g_zret X rfl dX0_hasRoom_28 (by decide) ⟨congrArg (fun n => some (Value.int (nI n))) (bN_0 (by first | omega | simp [roomy, c_1, c_2, c_3])), rfl, rfl⟩
      · refine g_iconst X (v := nI 1) dX0_hasRoom_23 (by decide) ?_
        refine g_goto X 28 dX0_hasRoom_24 (by decide) ?_
        exact g_zret X rfl dX0_hasRoom_28 (by decide) ⟨congrArg (fun n => some (Value.int (nI n))) (bN_1 (by first | omega | simp [roomy, c_1, c_2, c_3])), rfl, rfl⟩

set_option maxRecDepth 100000 in
set_option maxHeartbeats 4000000 in
/-- holdShut -/
theorem c_holdShut {l : Launch} {D : va_G} {ta : Nat → ClassId} {pl : Nat → Nat} {bs : Nat} {al : Ad} {Z : Wo} {u : St} (c0 : Nat) (h1 : c0 < 16) : GD l D ta pl bs yX0_holdShut wsX0_holdShut (rmF 0 0) [.ref (al 6 c0)] al (mC Z ta pl al u) none (mC Z ta pl al (st u 19 c0 1)) := by
  refine GM.of (by decide) rfl (Nat.le_of_ble_eq_true rfl) ?_
  intro p e s m args below meth c X hnm
  have hiX0 : ∀ w ∈ u_ws RX0 TX0 4, w ∈ wsX0_holdShut := by decide +kernel
  refine g_lv (lv' := [(0, .ref (al 6 c0))]) [0] rfl ?_
  refine g_aload_n X 0 dX0_holdShut_0 rfl rfl ?_
  refine g_iconst X (v := nI 1) dX0_holdShut_1 (by decide) ?_
  refine g_put X tyX0 tyX0_ok nmX0 6 c0 (cx6 (by omega)) rfl 3 (by decide) hiX0 (by decide +kernel) rfl rfl (ty := .boolean) (by decide +kernel) (by decide) (by decide) (Nat.le_of_ble_eq_true rfl) _ (up_heldShut (by omega)) dX0_holdShut_2 ?_
  generalize hu_1 : st u 19 c0 1 = u_1
  have k0u_1 : u_1 0 0 = u 0 0 := by rw [← hu_1]; first | rfl | exact st_nf (by omega)
  have k30u_1 : u_1 30 0 = u 30 0 := by rw [← hu_1]; first | rfl | exact st_nf (by omega)
  exact g_vret X rfl dX0_holdShut_5 ⟨rfl, rfl, by subst hu_1; rfl⟩

set_option maxRecDepth 100000 in
set_option maxHeartbeats 4000000 in
/-- empty -/
theorem c_empty {l : Launch} {D : va_G} {ta : Nat → ClassId} {pl : Nat → Nat} {bs : Nat} {al : Ad} {Z : Wo} {u : St} (c0 : Nat) (h1 : c0 < 16) : GD l D ta pl bs yX0_empty wsX0_empty (rmF 0 0) [.ref (al 6 c0)] al (mC Z ta pl al u) none (mC Z ta pl al (st (st u 19 c0 0) 18 c0 0)) := by
  refine GM.of (by decide) rfl (Nat.le_of_ble_eq_true rfl) ?_
  intro p e s m args below meth c X hnm
  have hiX0 : ∀ w ∈ u_ws RX0 TX0 4, w ∈ wsX0_empty := by decide +kernel
  refine g_lv (lv' := [(0, .ref (al 6 c0))]) [0] rfl ?_
  refine g_aload_n X 0 dX0_empty_0 rfl rfl ?_
  refine g_iconst X (v := nI 0) dX0_empty_1 (by decide) ?_
  refine g_put X tyX0 tyX0_ok nmX0 6 c0 (cx6 (by omega)) rfl 3 (by decide) hiX0 (by decide +kernel) rfl rfl (ty := .boolean) (by decide +kernel) (by decide) (by decide) (Nat.le_of_ble_eq_true rfl) _ (up_heldShut (by omega)) dX0_empty_2 ?_
  generalize hu_1 : st u 19 c0 0 = u_1
  have k0u_1 : u_1 0 0 = u 0 0 := by rw [← hu_1]; first | rfl | exact st_nf (by omega)
  have k30u_1 : u_1 30 0 = u 30 0 := by rw [← hu_1]; first | rfl | exact st_nf (by omega)
  refine g_aload_n X 0 dX0_empty_5 rfl rfl ?_
  refine g_iconst X (v := nI 0) dX0_empty_6 (by decide) ?_
  refine g_put X tyX0 tyX0_ok nmX0 6 c0 (cx6 (by omega)) rfl 2 (by decide) hiX0 (by decide +kernel) rfl rfl (ty := .int) (by decide +kernel) rfl rfl (Nat.le_of_ble_eq_true rfl) _ (up_lying (by omega)) dX0_empty_7 ?_
  generalize hu_2 : st u_1 18 c0 0 = u_2
  have k0u_2 : u_2 0 0 = u_1 0 0 := by rw [← hu_2]; first | rfl | exact st_nf (by omega)
  have k30u_2 : u_2 30 0 = u_1 30 0 := by rw [← hu_2]; first | rfl | exact st_nf (by omega)
  exact g_vret X rfl dX0_empty_10 ⟨rfl, rfl, by subst hu_1; subst hu_2; rfl⟩

set_option maxRecDepth 100000 in
set_option maxHeartbeats 4000000 in
/-- isRowFull -/
theorem c_isRowFull {l : Launch} {D : va_G} {ta : Nat → ClassId} {pl : Nat → Nat} {bs : Nat} {al : Ad} {Z : Wo} {u : St} (n : Nat) (h0 : 1 ≤ n ∧ n ≤ 4) (h1 : u 12 n ≤ 8) : GD l D ta pl bs yX1_isRowFull wsX1_isRowFull (rmF 0 0) [.ref (al 3 n)] al (mC Z ta pl al u) (some (.int (nI (bN (8 ≤ u 12 n))))) (mC Z ta pl al u) := by
  refine GM.of (by decide) rfl (Nat.le_of_ble_eq_true rfl) ?_
  intro p e s m args below meth c X hnm
  have hiX1 : ∀ w ∈ u_ws RX1 TX1 5, w ∈ wsX1_isRowFull := by decide +kernel
  refine g_lv (lv' := [(0, .ref (al 3 n))]) [0] rfl ?_
  refine g_aload_n X 0 dX1_isRowFull_0 rfl rfl ?_
  refine g_get X 3 n (cx3 ⟨by omega, by omega⟩) rfl 2 (by decide) hiX1 (by decide +kernel) rfl rfl dX1_isRowFull_1 ?_
  refine g_bipush X (v := nI 8) dX1_isRowFull_4 (by decide) ?_
  refine g_icmp_lt X 13 dX1_isRowFull_6 (by decide) (nI_ltI (by omega) (by omega)) (fun c_1 => ?_) (fun c_1 => ?_)
  · refine g_iconst X (v := nI 0) dX1_isRowFull_13 (by decide) ?_
    exact g_zret X rfl dX1_isRowFull_14 (by decide) ⟨congrArg (fun n => some (Value.int (nI n))) (bN_0 (by first | omega | simp [c_1])), rfl, rfl⟩
  · refine g_iconst X (v := nI 1) dX1_isRowFull_9 (by decide) ?_
    refine g_goto X 14 dX1_isRowFull_10 (by decide) ?_
    exact g_zret X rfl dX1_isRowFull_14 (by decide) ⟨congrArg (fun n => some (Value.int (nI n))) (bN_1 (by first | omega | simp [c_1])), rfl, rfl⟩

set_option maxRecDepth 100000 in
set_option maxHeartbeats 4000000 in
/-- addLast -/
theorem c_addLast {l : Launch} {D : va_G} {ta : Nat → ClassId} {pl : Nat → Nat} {bs : Nat} {al : Ad} {Z : Wo} {u : St} (n i : Nat) (h0 : 1 ≤ n ∧ n ≤ 4) (h1 : u 12 n < 8) (h2 : 1 ≤ i ∧ i ≤ u 30 0) : GD l D ta pl bs yX1_addLast wsX1_addLast (rmF 1 20) [.ref (al 3 n), .ref (al 9 i)] al (mC Z ta pl al u) none (mC Z ta pl al (addL u n i)) := by
  refine GM.of (by decide) rfl (Nat.le_of_ble_eq_true rfl) ?_
  intro p e s m args below meth c X hnm
  have hiX1 : ∀ w ∈ u_ws RX1 TX1 5, w ∈ wsX1_addLast := by decide +kernel
  refine g_lv (lv' := [(0, .ref (al 3 n)), (1, .ref (al 9 i))]) [0, 1] rfl ?_
  refine g_aload_n X 0 dX1_addLast_0 rfl rfl ?_
  refine g_callDV1 (n := 0) X 3 n [] (cx3 ⟨by omega, by omega⟩) rfl (c_isRowFull n ⟨by omega, by omega⟩ (by omega)) gX1_addLast_X1_isRowFull rfl ⟨rfl, rfl⟩ (by decide +kernel) ⟨by decide, by decide⟩ rfl (Nat.le_of_ble_eq_true rfl) dX1_addLast_1 ⟨Nat.zero_le _, Nat.zero_le _⟩ _ rfl ?_
  refine g_if_ne X 27 dX1_addLast_4 (by decide) (bN_eq0) (fun c_1 => ?_) (fun c_1 => ?_)
  · have c_1 := Decidable.of_not_not c_1
    exact absurd c_1 (by omega)
  · refine g_aload_n X 0 dX1_addLast_7 rfl rfl ?_
    refine g_get X 3 n (cx3 ⟨by omega, by omega⟩) rfl 1 (by decide) hiX1 (by decide +kernel) rfl rfl dX1_addLast_8 ?_
    refine g_aload_n X 0 dX1_addLast_11 rfl rfl ?_
    refine g_get X 3 n (cx3 ⟨by omega, by omega⟩) rfl 2 (by decide) hiX1 (by decide +kernel) rfl rfl dX1_addLast_12 ?_
    refine g_aload_n X 1 dX1_addLast_15 rfl rfl ?_
    refine g_aast0 X 4 n 9 i (cx4 ⟨by omega, by omega⟩) (cx9 ⟨by omega, by omega⟩) (u 12 n) (by omega) (by omega) _ (upr (by omega) (up_row ⟨by omega, by omega⟩)) dX1_addLast_16 ?_
    generalize hu_2 : st u (40 + n) (u 12 n) i = u_2
    have k0u_2 : u_2 0 0 = u 0 0 := by rw [← hu_2]; first | rfl | exact st_nf (by omega)
    have k30u_2 : u_2 30 0 = u 30 0 := by rw [← hu_2]; first | rfl | exact st_nf (by omega)
    refine g_aload_n X 0 dX1_addLast_17 rfl rfl ?_
    refine g_dup X dX1_addLast_18 rfl ?_
    refine g_get X 3 n (cx3 ⟨by omega, by omega⟩) rfl 2 (by decide) hiX1 (by decide +kernel) rfl rfl dX1_addLast_19 ?_
    refine g_iconst X (v := nI 1) dX1_addLast_22 (by decide) ?_
    refine g_iadd X dX1_addLast_23 (nI_add _ _) ?_
    refine g_put X tyX1 tyX1_ok nmX1 3 n (cx3 ⟨by omega, by omega⟩) rfl 2 (by decide) hiX1 (by decide +kernel) rfl rfl (ty := .int) (by decide +kernel) rfl rfl (Nat.le_of_ble_eq_true rfl) _ (up_waiting ⟨by omega, by omega⟩) dX1_addLast_24 ?_
    generalize hu_3 : st u_2 12 n ((u_2 12 n) + 1) = u_3
    have k0u_3 : u_3 0 0 = u_2 0 0 := by rw [← hu_3]; first | rfl | exact st_nf (by omega)
    have k30u_3 : u_3 30 0 = u_2 30 0 := by rw [← hu_3]; first | rfl | exact st_nf (by omega)
    exact g_vret X rfl dX1_addLast_27 ⟨rfl, rfl, by subst hu_2; subst hu_3; rfl⟩

set_option maxRecDepth 100000 in
set_option maxHeartbeats 4000000 in
/-- first -/
theorem c_first_0 {l : Launch} {D : va_G} {ta : Nat → ClassId} {pl : Nat → Nat} {bs : Nat} {al : Ad} {Z : Wo} {u : St} (n : Nat) (h0 : 1 ≤ n ∧ n ≤ 4) (h1 : u 12 n = 0) : GD l D ta pl bs yX1_first wsX1_first (rmF 0 0) [.ref (al 3 n)] al (mC Z ta pl al u) (some (.null)) (mC Z ta pl al u) := by
  refine GM.of (by decide) rfl (Nat.le_of_ble_eq_true rfl) ?_
  intro p e s m args below meth c X hnm
  have hiX1 : ∀ w ∈ u_ws RX1 TX1 5, w ∈ wsX1_first := by decide +kernel
  refine g_lv (lv' := [(0, .ref (al 3 n))]) [0] rfl ?_
  refine g_aload_n X 0 dX1_first_0 rfl rfl ?_
  refine g_get X 3 n (cx3 ⟨by omega, by omega⟩) rfl 2 (by decide) hiX1 (by decide +kernel) rfl rfl dX1_first_1 ?_
  refine g_if_le X 16 dX1_first_4 (by decide) (n0_le (by omega)) (fun c_1 => ?_) (fun c_1 => ?_)
  · refine g_null X dX1_first_16 ?_
    exact g_aret X rfl ⟨_, rfl⟩ (Or.inl rfl) dX1_first_17 ⟨rfl, rfl, rfl⟩
  · exact absurd h1 c_1

set_option maxRecDepth 100000 in
set_option maxHeartbeats 4000000 in
/-- first -/
theorem c_first_1 {l : Launch} {D : va_G} {ta : Nat → ClassId} {pl : Nat → Nat} {bs : Nat} {al : Ad} {Z : Wo} {u : St} (n : Nat) (h0 : 1 ≤ n ∧ n ≤ 4) (h1 : 1 ≤ u 12 n) (h2 : u 12 n ≤ 8) (h3 : u (40 + n) 0 ≠ 0) : GD l D ta pl bs yX1_first wsX1_first (rmF 0 0) [.ref (al 3 n)] al (mC Z ta pl al u) (some (.ref (al 9 (u (40 + n) 0)))) (mC Z ta pl al u) := by
  refine GM.of (by decide) rfl (Nat.le_of_ble_eq_true rfl) ?_
  intro p e s m args below meth c X hnm
  have hiX1 : ∀ w ∈ u_ws RX1 TX1 5, w ∈ wsX1_first := by decide +kernel
  refine g_lv (lv' := [(0, .ref (al 3 n))]) [0] rfl ?_
  refine g_aload_n X 0 dX1_first_0 rfl rfl ?_
  refine g_get X 3 n (cx3 ⟨by omega, by omega⟩) rfl 2 (by decide) hiX1 (by decide +kernel) rfl rfl dX1_first_1 ?_
  refine g_if_le X 16 dX1_first_4 (by decide) (n0_le (by omega)) (fun c_1 => ?_) (fun c_1 => ?_)
  · exact absurd c_1 (by omega)
  · refine g_aload_n X 0 dX1_first_7 rfl rfl ?_
    refine g_get X 3 n (cx3 ⟨by omega, by omega⟩) rfl 1 (by decide) hiX1 (by decide +kernel) rfl rfl dX1_first_8 ?_
    refine g_iconst X (v := nI 0) dX1_first_11 (by decide) ?_
    have b_2 : u (40 + n) 0 ≠ 0 := h3
    refine g_aald0 X 4 n (cx4 ⟨by omega, by omega⟩) 0 (by omega) (by omega) (rI_vp b_2) dX1_first_12 ?_
    refine g_goto X 17 dX1_first_13 (by decide) ?_
    exact g_aret X rfl ⟨_, rfl⟩ (Or.inr ⟨_, rfl⟩) dX1_first_17 ⟨rfl, rfl, rfl⟩

set_option maxRecDepth 100000 in
set_option maxHeartbeats 4000000 in
/-- setTraysOf -/
theorem c_setTr_0 {l : Launch} {D : va_G} {ta : Nat → ClassId} {pl : Nat → Nat} {bs : Nat} {al : Ad} {Z : Wo} {u : St} (i : Nat) (h1 : 1 ≤ u 0 0) (h2 : u 0 0 ≤ 200) (h3 : 1 ≤ i ∧ i ≤ u 30 0) (h4 : u 24 i < u 0 0) : GD l D ta pl bs yX4_setTraysOf wsX4_setTraysOf (rmF 1 21) [.ref (al 0 0), .ref (al 9 i), .null] al (mC Z ta pl al u) none (mC Z ta pl al (setTr u i 0)) := by
  refine GM.of (by decide) rfl (Nat.le_of_ble_eq_true rfl) ?_
  intro p e s m args below meth c X hnm
  have hiX2 : ∀ w ∈ u_ws RX2 TX2 8, w ∈ wsX4_setTraysOf := by decide +kernel
  have hiX4 : ∀ w ∈ u_ws RX4 TX4 13, w ∈ wsX4_setTraysOf := by decide +kernel
  refine g_lv (lv' := [(0, .ref (al 0 0)), (1, .ref (al 9 i)), (2, .null)]) [0, 1, 2] rfl ?_
  refine g_aload_n X 0 dX4_setTraysOf_0 rfl rfl ?_
  refine g_get X 0 0 cx0 rfl 2 (by decide) hiX4 (by decide +kernel) rfl rfl dX4_setTraysOf_1 ?_
  refine g_aload_n X 1 dX4_setTraysOf_4 rfl rfl ?_
  refine g_get X 9 i (cx9 ⟨by omega, by omega⟩) rfl 4 (by decide) hiX2 (by decide +kernel) rfl rfl dX4_setTraysOf_5 ?_
  refine g_aload_nN X 2 dX4_setTraysOf_8 rfl rfl ?_
  refine g_aastN X 1 0 cx1 (u 24 i) (by omega) (by omega) _ (up0 (up_carriedBy )) dX4_setTraysOf_9 ?_
  generalize hu_1 : st u 8 (u 24 i) 0 = u_1
  have k0u_1 : u_1 0 0 = u 0 0 := by rw [← hu_1]; first | rfl | exact st_nf (by omega)
  have k30u_1 : u_1 30 0 = u 30 0 := by rw [← hu_1]; first | rfl | exact st_nf (by omega)
  have k24u_1 : u_1 24 i = u 24 i := by rw [← hu_1]; first | rfl | exact st_nf (by omega)
  refine g_aload_n X 1 dX4_setTraysOf_10 rfl rfl ?_
  refine g_get X 9 i (cx9 ⟨by omega, by omega⟩) rfl 1 (by decide) hiX2 (by decide +kernel) rfl rfl dX4_setTraysOf_11 ?_
  refine g_iconst X (v := nI 2) dX4_setTraysOf_14 (by decide) ?_
  refine g_icmp_ne X 32 dX4_setTraysOf_15 (by decide) (Iff.rfl) (fun c_2 => ?_) (fun c_2 => ?_)
  · exact g_vret X rfl dX4_setTraysOf_32 ⟨rfl, rfl, by subst hu_1; simp only [setTr, c_2, if_true, if_false]⟩
  · refine g_aload_n X 0 dX4_setTraysOf_18 rfl rfl ?_
    refine g_get X 0 0 cx0 rfl 2 (by decide) hiX4 (by decide +kernel) rfl rfl dX4_setTraysOf_19 ?_
    refine g_aload_n X 0 dX4_setTraysOf_22 rfl rfl ?_
    refine g_aload_n X 1 dX4_setTraysOf_23 rfl rfl ?_
    refine g_get X 9 i (cx9 ⟨by omega, by omega⟩) rfl 4 (by decide) hiX2 (by decide +kernel) rfl rfl dX4_setTraysOf_24 ?_
    have hq_3 : tB u_1 (u_1 24 i) < u_1 0 0 := tB_lt (by omega)
    refine g_callDV1 (n := 1) X 0 0 [.int (nI (u_1 24 i))] cx0 rfl (c_trayBehind (u_1 24 i) (by omega) (by omega) (by omega)) gX4_setTraysOf_X4_trayBehind rfl ⟨rfl, rfl⟩ (by decide +kernel) ⟨by decide, by decide⟩ rfl (Nat.le_of_ble_eq_true rfl) dX4_setTraysOf_27 ⟨Nat.zero_le _, Nat.zero_le _⟩ _ rfl ?_
    refine g_aload_nN X 2 dX4_setTraysOf_30 rfl rfl ?_
    refine g_aastN X 1 0 cx1 (tB u_1 (u_1 24 i)) (by omega) (by omega) _ (up0 (up_carriedBy )) dX4_setTraysOf_31 ?_
    generalize hu_4 : st u_1 8 (tB u_1 (u_1 24 i)) 0 = u_4
    have k0u_4 : u_4 0 0 = u_1 0 0 := by rw [← hu_4]; first | rfl | exact st_nf (by omega)
    have k30u_4 : u_4 30 0 = u_1 30 0 := by rw [← hu_4]; first | rfl | exact st_nf (by omega)
    have k24u_4 : u_4 24 i = u_1 24 i := by rw [← hu_4]; first | rfl | exact st_nf (by omega)
    exact g_vret X rfl dX4_setTraysOf_32 ⟨rfl, rfl, by subst hu_1; subst hu_4; simp only [setTr, c_2, if_true, if_false]⟩

set_option maxRecDepth 100000 in
set_option maxHeartbeats 4000000 in
/-- setTraysOf -/
theorem c_setTr_1 {l : Launch} {D : va_G} {ta : Nat → ClassId} {pl : Nat → Nat} {bs : Nat} {al : Ad} {Z : Wo} {u : St} (i : Nat) (h1 : 1 ≤ u 0 0) (h2 : u 0 0 ≤ 200) (h3 : 1 ≤ i ∧ i ≤ u 30 0) (h4 : u 24 i < u 0 0) : GD l D ta pl bs yX4_setTraysOf wsX4_setTraysOf (rmF 1 21) [.ref (al 0 0), .ref (al 9 i), .ref (al 9 i)] al (mC Z ta pl al u) none (mC Z ta pl al (setTr u i i)) := by
  refine GM.of (by decide) rfl (Nat.le_of_ble_eq_true rfl) ?_
  intro p e s m args below meth c X hnm
  have hiX2 : ∀ w ∈ u_ws RX2 TX2 8, w ∈ wsX4_setTraysOf := by decide +kernel
  have hiX4 : ∀ w ∈ u_ws RX4 TX4 13, w ∈ wsX4_setTraysOf := by decide +kernel
  refine g_lv (lv' := [(0, .ref (al 0 0)), (1, .ref (al 9 i)), (2, .ref (al 9 i))]) [0, 1, 2] rfl ?_
  refine g_aload_n X 0 dX4_setTraysOf_0 rfl rfl ?_
  refine g_get X 0 0 cx0 rfl 2 (by decide) hiX4 (by decide +kernel) rfl rfl dX4_setTraysOf_1 ?_
  refine g_aload_n X 1 dX4_setTraysOf_4 rfl rfl ?_
  refine g_get X 9 i (cx9 ⟨by omega, by omega⟩) rfl 4 (by decide) hiX2 (by decide +kernel) rfl rfl dX4_setTraysOf_5 ?_
  refine g_aload_n X 2 dX4_setTraysOf_8 rfl rfl ?_
  refine g_aast0 X 1 0 9 i cx1 (cx9 ⟨by omega, by omega⟩) (u 24 i) (by omega) (by omega) _ (upr (by omega) (up_carriedBy )) dX4_setTraysOf_9 ?_
  generalize hu_1 : st u 8 (u 24 i) i = u_1
  have k0u_1 : u_1 0 0 = u 0 0 := by rw [← hu_1]; first | rfl | exact st_nf (by omega)
  have k30u_1 : u_1 30 0 = u 30 0 := by rw [← hu_1]; first | rfl | exact st_nf (by omega)
  have k24u_1 : u_1 24 i = u 24 i := by rw [← hu_1]; first | rfl | exact st_nf (by omega)
  refine g_aload_n X 1 dX4_setTraysOf_10 rfl rfl ?_
  refine g_get X 9 i (cx9 ⟨by omega, by omega⟩) rfl 1 (by decide) hiX2 (by decide +kernel) rfl rfl dX4_setTraysOf_11 ?_
  refine g_iconst X (v := nI 2) dX4_setTraysOf_14 (by decide) ?_
  refine g_icmp_ne X 32 dX4_setTraysOf_15 (by decide) (Iff.rfl) (fun c_2 => ?_) (fun c_2 => ?_)
  · exact g_vret X rfl dX4_setTraysOf_32 ⟨rfl, rfl, by subst hu_1; simp only [setTr, c_2, if_true, if_false]⟩
  · refine g_aload_n X 0 dX4_setTraysOf_18 rfl rfl ?_
    refine g_get X 0 0 cx0 rfl 2 (by decide) hiX4 (by decide +kernel) rfl rfl dX4_setTraysOf_19 ?_
    refine g_aload_n X 0 dX4_setTraysOf_22 rfl rfl ?_
    refine g_aload_n X 1 dX4_setTraysOf_23 rfl rfl ?_
    refine g_get X 9 i (cx9 ⟨by omega, by omega⟩) rfl 4 (by decide) hiX2 (by decide +kernel) rfl rfl dX4_setTraysOf_24 ?_
    have hq_3 : tB u_1 (u_1 24 i) < u_1 0 0 := tB_lt (by omega)
    refine g_callDV1 (n := 1) X 0 0 [.int (nI (u_1 24 i))] cx0 rfl (c_trayBehind (u_1 24 i) (by omega) (by omega) (by omega)) gX4_setTraysOf_X4_trayBehind rfl ⟨rfl, rfl⟩ (by decide +kernel) ⟨by decide, by decide⟩ rfl (Nat.le_of_ble_eq_true rfl) dX4_setTraysOf_27 ⟨Nat.zero_le _, Nat.zero_le _⟩ _ rfl ?_
    refine g_aload_n X 2 dX4_setTraysOf_30 rfl rfl ?_
    refine g_aast0 X 1 0 9 i cx1 (cx9 ⟨by omega, by omega⟩) (tB u_1 (u_1 24 i)) (by omega) (by omega) _ (upr (by omega) (up_carriedBy )) dX4_setTraysOf_31 ?_
    generalize hu_4 : st u_1 8 (tB u_1 (u_1 24 i)) i = u_4
    have k0u_4 : u_4 0 0 = u_1 0 0 := by rw [← hu_4]; first | rfl | exact st_nf (by omega)
    have k30u_4 : u_4 30 0 = u_1 30 0 := by rw [← hu_4]; first | rfl | exact st_nf (by omega)
    have k24u_4 : u_4 24 i = u_1 24 i := by rw [← hu_4]; first | rfl | exact st_nf (by omega)
    exact g_vret X rfl dX4_setTraysOf_32 ⟨rfl, rfl, by subst hu_1; subst hu_4; simp only [setTr, c_2, if_true, if_false]⟩

set_option maxRecDepth 100000 in
set_option maxHeartbeats 4000000 in
/-- isFreeFor -/
theorem c_isFreeFor {l : Launch} {D : va_G} {ta : Nat → ClassId} {pl : Nat → Nat} {bs : Nat} {al : Ad} {Z : Wo} {u : St} (i t : Nat) (h1 : 1 ≤ u 0 0) (h2 : u 0 0 ≤ 200) (h3 : 1 ≤ i ∧ i ≤ u 30 0) (h4 : t < u 0 0) : GD l D ta pl bs yX4_isFreeFor wsX4_isFreeFor (rmF 1 21) [.ref (al 0 0), .ref (al 9 i), .int (nI t)] al (mC Z ta pl al u) (some (.int (nI (bN (freeFor u i t))))) (mC Z ta pl al u) := by
  refine GM.of (by decide) rfl (Nat.le_of_ble_eq_true rfl) ?_
  intro p e s m args below meth c X hnm
  have hiX2 : ∀ w ∈ u_ws RX2 TX2 8, w ∈ wsX4_isFreeFor := by decide +kernel
  have hiX4 : ∀ w ∈ u_ws RX4 TX4 13, w ∈ wsX4_isFreeFor := by decide +kernel
  refine g_lv (lv' := [(0, .ref (al 0 0)), (1, .ref (al 9 i)), (2, .int (nI t))]) [0, 1, 2] rfl ?_
  refine g_aload_n X 0 dX4_isFreeFor_0 rfl rfl ?_
  refine g_get X 0 0 cx0 rfl 2 (by decide) hiX4 (by decide +kernel) rfl rfl dX4_isFreeFor_1 ?_
  refine g_iload_n X 2 dX4_isFreeFor_4 rfl rfl ?_
  by_cases b_1 : u 8 t = 0
  · refine g_aald0 X 1 0 cx1 t (by omega) (by omega) (rI_v0 b_1) dX4_isFreeFor_5 ?_
    refine g_ifnull_n X 11 dX4_isFreeFor_6 (by decide) ?_
    refine g_aload_n X 1 dX4_isFreeFor_11 rfl rfl ?_
    refine g_get X 9 i (cx9 ⟨by omega, by omega⟩) rfl 1 (by decide) hiX2 (by decide +kernel) rfl rfl dX4_isFreeFor_12 ?_
    refine g_iconst X (v := nI 2) dX4_isFreeFor_15 (by decide) ?_
    refine g_icmp_lt X 40 dX4_isFreeFor_16 (by decide) (Iff.rfl) (fun c_2 => ?_) (fun c_2 => ?_)
    · refine g_iconst X (v := nI 1) dX4_isFreeFor_40 (by decide) ?_
      refine g_goto X 45 dX4_isFreeFor_41 (by decide) ?_
      exact g_zret X rfl dX4_isFreeFor_45 (by decide) ⟨congrArg (fun n => some (Value.int (nI n))) (bN_1 (by first | omega | simp [freeFor, b_1, c_2])), rfl, rfl⟩
    · refine g_aload_n X 0 dX4_isFreeFor_19 rfl rfl ?_
      refine g_get X 0 0 cx0 rfl 0 (by decide) hiX4 (by decide +kernel) rfl rfl dX4_isFreeFor_20 ?_
      refine g_iconst X (v := nI 1) dX4_isFreeFor_23 (by decide) ?_
      refine g_icmp_le X 44 dX4_isFreeFor_24 (by decide) (Iff.rfl) (fun c_3 => ?_) (fun c_3 => ?_)
      · refine g_iconst X (v := nI 0) dX4_isFreeFor_44 (by decide) ?_
        exact g_zret X rfl dX4_isFreeFor_45 (by decide) ⟨congrArg (fun n => some (Value.int (nI n))) (bN_0 (by first | omega | simp [freeFor, b_1, c_2, c_3])), rfl, rfl⟩
      · refine g_aload_n X 0 dX4_isFreeFor_27 rfl rfl ?_
        refine g_get X 0 0 cx0 rfl 2 (by decide) hiX4 (by decide +kernel) rfl rfl dX4_isFreeFor_28 ?_
        refine g_aload_n X 0 dX4_isFreeFor_31 rfl rfl ?_
        refine g_iload_n X 2 dX4_isFreeFor_32 rfl rfl ?_
        have hq_4 : tB u t < u 0 0 := tB_lt (by omega)
        refine g_callDV1 (n := 1) X 0 0 [.int (nI t)] cx0 rfl (c_trayBehind t (by omega) (by omega) (by omega)) gX4_isFreeFor_X4_trayBehind rfl ⟨rfl, rfl⟩ (by decide +kernel) ⟨by decide, by decide⟩ rfl (Nat.le_of_ble_eq_true rfl) dX4_isFreeFor_33 ⟨Nat.zero_le _, Nat.zero_le _⟩ _ rfl ?_
        by_cases b_5 : u 8 (tB u t) = 0
        · refine g_aald0 X 1 0 cx1 (tB u t) (by omega) (by omega) (rI_v0 b_5) dX4_isFreeFor_36 ?_
          refine g_ifnonnull_n X dX4_isFreeFor_37 ?_
          refine g_iconst X (v := nI 1) dX4_isFreeFor_40 (by decide) ?_
          refine g_goto X 45 dX4_isFreeFor_41 (by decide) ?_
          exact g_zret X rfl dX4_isFreeFor_45 (by decide) ⟨congrArg (fun n => some (Value.int (nI n))) (bN_1 (by first | omega | simp [freeFor, b_1, c_2, c_3, b_5])), rfl, rfl⟩
        · refine g_aald0 X 1 0 cx1 (tB u t) (by omega) (by omega) (rI_vp b_5) dX4_isFreeFor_36 ?_
          refine g_ifnonnull_r X 44 dX4_isFreeFor_37 (by decide) ?_
          refine g_iconst X (v := nI 0) dX4_isFreeFor_44 (by decide) ?_
          exact g_zret X rfl dX4_isFreeFor_45 (by decide) ⟨congrArg (fun n => some (Value.int (nI n))) (bN_0 (by first | omega | simp [freeFor, b_1, c_2, c_3, b_5])), rfl, rfl⟩
  · refine g_aald0 X 1 0 cx1 t (by omega) (by omega) (rI_vp b_1) dX4_isFreeFor_5 ?_
    refine g_ifnull_r X dX4_isFreeFor_6 ?_
    refine g_iconst X (v := nI 0) dX4_isFreeFor_9 (by decide) ?_
    exact g_zret X rfl dX4_isFreeFor_10 (by decide) ⟨congrArg (fun n => some (Value.int (nI n))) (bN_0 (by first | omega | simp [freeFor, b_1])), rfl, rfl⟩
end
section
/-! THE CLASS' INVARIANT. u 31 i: the induct at which item i came (a number that no cell holds) -/
def cnt (f : Nat → Nat) : Nat → Nat
  | 0 => 0
  | n + 1 => cnt f n + f (n + 1)
def onL (u : St) (i : Nat) : Nat := if u 23 i = 1 ∨ u 23 i = 2 then 1 else 0
def isOut (u : St) (i : Nat) : Nat := if u 23 i = 3 then 1 else 0
/-- sizes -/
def Iv1 (u : St) : Prop := 1 ≤ u 0 0 ∧ u 0 0 ≤ 200 ∧ u 7 0 < u 0 0 ∧ u 2 0 ≤ 400 ∧ u 30 0 = u 2 0 ∧ 1 ≤ u 5 0 ∧ u 5 0 ≤ 5
/-- items -/
def Iv2 (u : St) : Prop := ∀ i, 1 ≤ i → i ≤ u 2 0 → u 23 i < 4 ∧ u 22 i < 16 ∧ 1 ≤ u 21 i ∧ u 21 i ≤ 2 ∧ u 24 i < u 0 0 ∧ 1 ≤ u 31 i ∧ u 31 i ≤ 4
/-- trays -/
def Iv3 (u : St) : Prop := ∀ t, u 8 t ≤ u 2 0 ∧ (u 8 t ≠ 0 → (u 23 (u 8 t) = 1 ∨ u 23 (u 8 t) = 2) ∧ (t = u 24 (u 8 t) ∨ (u 21 (u 8 t) = 2 ∧ t = tB u (u 24 (u 8 t)))))
/-- counts -/
def Iv4 (u : St) : Prop := u 4 0 = cnt (onL u) (u 2 0) ∧ u 3 0 = cnt (isOut u) (u 2 0) ∧ ∀ j, j < u 3 0 → u 23 (u 10 j) = 3
/-- rows -/
def Iv5 (u : St) : Prop := ∀ n, 1 ≤ n → n ≤ 4 → u 12 n ≤ 8 ∧ (∀ j, u (40 + n) j ≤ u 2 0) ∧ (∀ j, j < u 12 n → u (40 + n) j ≠ 0 ∧ u 23 (u (40 + n) j) = 0 ∧ u 31 (u (40 + n) j) = n) ∧ (∀ j, j + 1 < u 12 n → u (40 + n) j < u (40 + n) (j + 1)) ∧ ∀ i, 1 ≤ i → i ≤ u 2 0 → u 23 i = 0 → u 31 i = n → ∃ j, j < u 12 n ∧ u (40 + n) j = i
/-- the lists of items and of those gone -/
def Iv6 (u : St) : Prop := (∀ j, u 9 j ≤ u 2 0 ∧ (j < u 2 0 → u 9 j = j + 1)) ∧ ∀ j, u 10 j ≤ u 2 0 ∧ (j < u 3 0 → 1 ≤ u 10 j)
def Iv (u : St) : Prop := Iv1 u ∧ Iv2 u ∧ Iv3 u ∧ Iv4 u ∧ Iv5 u ∧ Iv6 u
theorem cnt_le {f : Nat → Nat} (h : ∀ i, f i ≤ 1) (n : Nat) : cnt f n ≤ n := by
  induction n with
  | zero => exact Nat.le_refl _
  | succ n ih => show cnt f n + f (n + 1) ≤ n + 1; have := h (n + 1); omega
theorem cnt_pos {f : Nat → Nat} {i : Nat} (hi : f i = 1) : ∀ (n : Nat), 1 ≤ i → i ≤ n → 1 ≤ cnt f n := by
  intro n
  induction n with
  | zero => intro h1 h2; omega
  | succ n ih =>
    intro h1 h2
    show 1 ≤ cnt f n + f (n + 1)
    by_cases hq : i = n + 1
    · subst hq; omega
    · have := ih h1 (by omega); omega
theorem cnt_lt {f : Nat → Nat} (h : ∀ i, f i ≤ 1) {i : Nat} (hi : f i = 0) : ∀ (n : Nat), 1 ≤ i → i ≤ n → cnt f n < n := by
  intro n
  induction n with
  | zero => intro h1 h2; omega
  | succ n ih =>
    intro h1 h2
    show cnt f n + f (n + 1) < n + 1
    by_cases hq : i = n + 1
    · subst hq; have := cnt_le h n; omega
    · have := ih h1 (by omega); have := h (n + 1); omega
theorem onL_le {u : St} (i : Nat) : onL u i ≤ 1 := by unfold onL; split <;> omega
theorem isOut_le {u : St} (i : Nat) : isOut u i ≤ 1 := by unfold isOut; split <;> omega
/-- an item on the loop: there is one carried, and room among the gone -/
theorem Iv.carry {u : St} (h : Iv u) {i : Nat} (h1 : 1 ≤ i) (h2 : i ≤ u 2 0) (h3 : u 23 i = 1) : 1 ≤ u 4 0 ∧ u 3 0 < 400 ∧ u 4 0 ≤ 400 := by
  obtain ⟨⟨-, -, -, hN, -⟩, -, -, ⟨h4, h5, -⟩, -⟩ := h
  refine ⟨?_, ?_, ?_⟩
  · rw [h4]; exact cnt_pos (by unfold onL; rw [if_pos (Or.inl h3)]) _ h1 h2
  · rw [h5]; have := cnt_lt (f := isOut u) isOut_le (i := i) (by unfold isOut; rw [if_neg (by omega)]) _ h1 h2; omega
  · rw [h4]; have := cnt_le (f := onL u) onL_le (u 2 0); omega
theorem Iv.le4 {u : St} (h : Iv u) : u 4 0 ≤ 400 := by
  obtain ⟨⟨-, -, -, hN, -⟩, -, -, ⟨h4, h5, -⟩, -⟩ := h
  rw [h4]; have := cnt_le (f := onL u) onL_le (u 2 0); omega
theorem Iv.le3 {u : St} (h : Iv u) : u 3 0 ≤ 400 := by
  obtain ⟨⟨-, -, -, hN, -⟩, -, -, ⟨h4, h5, -⟩, -⟩ := h
  rw [h5]; have := cnt_le (f := isOut u) isOut_le (u 2 0); omega
theorem Iv_passOne {u : St} (h : Iv u) {c : Nat} (hc : c < 16) : Iv (passOne u c) := sorry
theorem Iv_shift {u : St} (h : Iv u) : Iv (shf u) := sorry
theorem Iv_putF {u : St} (h : Iv u) {n : Nat} (hn : 1 ≤ n ∧ n ≤ 4) : Iv (putF u n) := sorry
theorem Iv_had {u : St} (h : Iv u) {n x : Nat} : Iv (st u 14 n x) := sorry
theorem Iv_time {u : St} (h : Iv u) {x : Nat} : Iv (st u 6 0 x) := sorry
theorem Iv_passN {u : St} (h : Iv u) : ∀ n, n ≤ 16 → Iv (passN n u) := by
  intro n
  induction n with
  | zero => intro _; exact h
  | succ n ih => intro hn; exact Iv_passOne (ih (by omega)) (by omega)
theorem Iv_moveOne {u : St} (h : Iv u) : Iv (moveOne u) := by
  unfold moveOne
  split
  · exact Iv_passN (Iv_shift h) 16 (Nat.le_refl _)
  · exact Iv_shift h
theorem Iv_moveN {u : St} (h : Iv u) : ∀ n, Iv (moveN n u) := by
  intro n
  induction n with
  | zero => exact h
  | succ n ih => exact Iv_moveOne ih
theorem Iv_clrN {u : St} (h : Iv u) : ∀ n, Iv (clrN n u) := by
  intro n
  induction n with
  | zero => exact h
  | succ n ih => exact Iv_had ih
theorem nxT_le {u : St} : ∀ k, nxT u k ≤ k := by
  intro k
  induction k with
  | zero => exact Nat.le_refl _
  | succ k ih => unfold nxT; split <;> omega
theorem Iv_turnOne {u : St} (h : Iv u) : Iv (turnOne u) := by
  unfold turnOne
  split
  · exact h
  · have := nxT_le (u := u) 4; exact Iv_putF (Iv_had h) ⟨by omega, this⟩
theorem Iv_turnN {u : St} (h : Iv u) : ∀ n, Iv (turnN n u) := by
  intro n
  induction n with
  | zero => exact h
  | succ n ih => exact Iv_turnOne ih
theorem Iv_takeT {u : St} (h : Iv u) : Iv (takeT u) := Iv_turnN (Iv_clrN h 4) 4
theorem Iv_runOne {u : St} (h : Iv u) : Iv (runOne u) := Iv_takeT (Iv_time (Iv_moveN h _))
theorem Iv_runN {u : St} (h : Iv u) : ∀ n, Iv (runN n u) := by
  intro n
  induction n with
  | zero => exact h
  | succ n ih => exact Iv_runOne ih
theorem moveOne_k {u : St} {f j : Nat} (h : f = 0 ∨ f = 30 ∨ f = 1 ∨ f = 5) : moveOne u f j = u f j := by
  have h7 : f ≠ 7 := by omega
  unfold moveOne
  split
  · rw [passN_k (by omega)]; exact st_nf h7
  · exact st_nf h7
theorem moveN_k {n : Nat} {u : St} {f j : Nat} (h : f = 0 ∨ f = 30 ∨ f = 1 ∨ f = 5) : moveN n u f j = u f j := by
  induction n with
  | zero => rfl
  | succ n ih => show moveOne (moveN n u) f j = _; rw [moveOne_k h, ih]
end
section
set_option maxRecDepth 100000 in
set_option maxHeartbeats 4000000 in
/-- the loop of removeFirst at 19:  -/
theorem l_removeFirst {l : Launch} {D : va_G} {ta : Nat → ClassId} {pl : Nat → Nat} {bs : Nat} {al : Ad} {Z : Wo} {p : Program} {e : Env} {s : State} {m : MethodId} {args : Array Value} {below : List Frame} {meth : Method} {c : Code} {u : St} (X : Cx D ta pl bs 2 p s m args meth c cX1_removeFirst wsX1_removeFirst RX1 none) (n : Nat) (h0 : 1 ≤ n ∧ n ≤ 4) (h1 : u 12 n ≤ 7) (h2 : ∀ j, j ≤ u 12 n → u (40 + n) j ≠ 0 ∧ u (40 + n) j ≤ u 30 0) : ∀ (n9 i : Nat), i ≤ u 12 n → u 12 n + 1 ≤ i + n9 → WW D bs 2 p l e (rmF 0 0) s m args below meth c (QQ D bs below args s 0 0 (fun r al' C' => r = none ∧ al' = al ∧ C' = mC Z ta pl al (st (rowUp n (u 12 n) u) (40 + n) (u 12 n) 0))) al (mC Z ta pl al (rowUp n i u)) 0 0 19 [(1, .int (nI i)), (0, .ref (al 3 n))] [] := by
  have hiX1 : ∀ w ∈ u_ws RX1 TX1 5, w ∈ wsX1_removeFirst := by decide +kernel
  intro n9
  induction n9 with
  | zero => intro i h8 h9; exact absurd h9 (by omega)
  | succ n9 ih =>
    intro i h8 h9
    have k12 : rowUp n i u 12 n = u 12 n := rowUp_k (by omega)
    have k30 : rowUp n i u 30 0 = u 30 0 := rowUp_k (by omega)
    have kr : rowUp n i u (40 + n) (i + 1) = u (40 + n) (i + 1) := rowUp_hi (by omega)
    generalize hw : rowUp n i u = w at *
    refine g_iload_n X 0 dX1_removeFirst_19 rfl rfl ?_
    refine g_aload_n X 1 dX1_removeFirst_20 rfl rfl ?_
    refine g_get X 3 n (cx3 ⟨by omega, by omega⟩) rfl 2 (by decide) hiX1 (by decide +kernel) rfl rfl dX1_removeFirst_21 ?_
    refine g_icmp_ge X 47 dX1_removeFirst_24 (by decide) (nI_leI (by omega) (by omega)) (fun c_1 => ?_) (fun c_1 => ?_)
    · refine g_aload_n X 1 dX1_removeFirst_47 rfl rfl ?_
      refine g_get X 3 n (cx3 ⟨by omega, by omega⟩) rfl 1 (by decide) hiX1 (by decide +kernel) rfl rfl dX1_removeFirst_48 ?_
      refine g_aload_n X 1 dX1_removeFirst_51 rfl rfl ?_
      refine g_get X 3 n (cx3 ⟨by omega, by omega⟩) rfl 2 (by decide) hiX1 (by decide +kernel) rfl rfl dX1_removeFirst_52 ?_
      refine g_null X dX1_removeFirst_55 ?_
      refine g_aastN X 4 n (cx4 ⟨by omega, by omega⟩) (w 12 n) (by omega) (by omega) _ (up0 (up_row ⟨by omega, by omega⟩)) dX1_removeFirst_56 ?_
      generalize hu_2 : st w (40 + n) (w 12 n) 0 = u_2
      have k30u_2 : u_2 30 0 = w 30 0 := by rw [← hu_2]; first | rfl | exact st_nf (by omega)
      exact g_vret X rfl dX1_removeFirst_57 ⟨rfl, rfl, by subst hu_2; subst hw; rw [rowUp_k (by omega)]; have e9 : i = u 12 n := (by omega); rw [e9]⟩
    · refine g_aload_n X 1 dX1_removeFirst_27 rfl rfl ?_
      refine g_get X 3 n (cx3 ⟨by omega, by omega⟩) rfl 1 (by decide) hiX1 (by decide +kernel) rfl rfl dX1_removeFirst_28 ?_
      refine g_iload_n X 0 dX1_removeFirst_31 rfl rfl ?_
      refine g_aload_n X 1 dX1_removeFirst_32 rfl rfl ?_
      refine g_get X 3 n (cx3 ⟨by omega, by omega⟩) rfl 1 (by decide) hiX1 (by decide +kernel) rfl rfl dX1_removeFirst_33 ?_
      refine g_iload_n X 0 dX1_removeFirst_36 rfl rfl ?_
      refine g_iconst X (v := nI 1) dX1_removeFirst_37 (by decide) ?_
      refine g_iadd X dX1_removeFirst_38 (nI_add _ _) ?_
      have hr9 := (h2 (i + 1) (by omega)).2
      have b_3 : w (40 + n) (i + 1) ≠ 0 := by rw [kr]; exact (h2 _ (by omega)).1
      refine g_aald0 X 4 n (cx4 ⟨by omega, by omega⟩) (i + 1) (by omega) (by omega) (rI_vp b_3) dX1_removeFirst_39 ?_
      refine g_aast0 X 4 n 9 (w (40 + n) (i + 1)) (cx4 ⟨by omega, by omega⟩) (cx9 ⟨by omega, by omega⟩) i (by omega) (by omega) _ (upr (by omega) (up_row ⟨by omega, by omega⟩)) dX1_removeFirst_40 ?_
      generalize hu_4 : st w (40 + n) i (w (40 + n) (i + 1)) = u_4
      have k30u_4 : u_4 30 0 = w 30 0 := by rw [← hu_4]; first | rfl | exact st_nf (by omega)
      refine g_iinc X 0 [(1, .int (nI (i + 1))), (0, .ref (al 3 n))] dX1_removeFirst_41 rfl (nI_inc (by decide)) (by decide) rfl ?_
      refine g_goto X 19 dX1_removeFirst_44 (by decide) ?_
      refine g_lv [0, 1] rfl ?_
      subst hu_4
      subst hw
      exact ih (i + 1) (by omega) (by omega)

set_option maxRecDepth 100000 in
set_option maxHeartbeats 4000000 in
/-- removeFirst -/
theorem c_removeFirst {l : Launch} {D : va_G} {ta : Nat → ClassId} {pl : Nat → Nat} {bs : Nat} {al : Ad} {Z : Wo} {u : St} (n : Nat) (h0 : 1 ≤ n ∧ n ≤ 4) (h1 : 1 ≤ u 12 n) (h3 : u 12 n ≤ 8) (h2 : ∀ j, j < u 12 n → u (40 + n) j ≠ 0 ∧ u (40 + n) j ≤ u 30 0) : GD l D ta pl bs yX1_removeFirst wsX1_removeFirst (rmF 0 0) [.ref (al 3 n)] al (mC Z ta pl al u) none (mC Z ta pl al (remF u n)) := by
  refine GM.of (by decide) rfl (Nat.le_of_ble_eq_true rfl) ?_
  intro p e s m args below meth c X hnm
  have hiX1 : ∀ w ∈ u_ws RX1 TX1 5, w ∈ wsX1_removeFirst := by decide +kernel
  refine g_lv (lv' := [(0, .ref (al 3 n))]) [0] rfl ?_
  refine g_aload_n X 0 dX1_removeFirst_0 rfl rfl ?_
  refine g_get X 3 n (cx3 ⟨by omega, by omega⟩) rfl 2 (by decide) hiX1 (by decide +kernel) rfl rfl dX1_removeFirst_1 ?_
  refine g_if_le X 57 dX1_removeFirst_4 (by decide) (n0_le (by omega)) (fun c_1 => ?_) (fun c_1 => ?_)
  · exact absurd c_1 (by omega)
  · refine g_aload_n X 0 dX1_removeFirst_7 rfl rfl ?_
    refine g_dup X dX1_removeFirst_8 rfl ?_
    refine g_get X 3 n (cx3 ⟨by omega, by omega⟩) rfl 2 (by decide) hiX1 (by decide +kernel) rfl rfl dX1_removeFirst_9 ?_
    refine g_iconst X (v := nI 1) dX1_removeFirst_12 (by decide) ?_
    refine g_isub X dX1_removeFirst_13 (pk_sub (by omega)) ?_
    refine g_put X tyX1 tyX1_ok nmX1 3 n (cx3 ⟨by omega, by omega⟩) rfl 2 (by decide) hiX1 (by decide +kernel) rfl rfl (ty := .int) (by decide +kernel) rfl rfl (Nat.le_of_ble_eq_true rfl) _ (up_waiting ⟨by omega, by omega⟩) dX1_removeFirst_14 ?_
    generalize hu_2 : st u 12 n ((u 12 n) - 1) = u_2
    have k0u_2 : u_2 0 0 = u 0 0 := by rw [← hu_2]; first | rfl | exact st_nf (by omega)
    have k30u_2 : u_2 30 0 = u 30 0 := by rw [← hu_2]; first | rfl | exact st_nf (by omega)
    refine g_iconst X (v := nI 0) dX1_removeFirst_17 (by decide) ?_
    refine g_istore_n X [(1, .int (nI 0)), (0, .ref (al 3 n))] dX1_removeFirst_18 rfl (by decide) rfl ?_
    refine g_lv [0, 1] rfl ?_
    have e9 : u_2 12 n = u 12 n - 1 := by rw [← hu_2, st_self]
    have h29 : ∀ j, j ≤ u_2 12 n → u_2 (40 + n) j ≠ 0 ∧ u_2 (40 + n) j ≤ u_2 30 0 := by
      intro j hj
      rw [k30u_2, ← hu_2, st_nf (by omega)]
      exact h2 j (by omega)
    have q9 := l_removeFirst (u := u_2) (al := al) (Z := Z) (below := below) (l := l) (e := e) X n h0 (by omega) h29 (u_2 12 n + 1) 0 (Nat.zero_le _) (by omega)
    subst hu_2
    exact q9

set_option maxRecDepth 100000 in
set_option maxHeartbeats 4000000 in
/-- letOut -/
theorem c_letOut {l : Launch} {D : va_G} {ta : Nat → ClassId} {pl : Nat → Nat} {bs : Nat} {al : Ad} {Z : Wo} {u : St} (i c0 : Nat) (h1 : 1 ≤ u 0 0) (h2 : u 0 0 ≤ 200) (h3 : 1 ≤ i ∧ i ≤ u 30 0) (h4 : u 24 i < u 0 0) (h5 : c0 < 16) (h6 : 1 ≤ u 4 0) (h7 : u 3 0 < 400) : GD l D ta pl bs yX4_letOut wsX4_letOut (rmF 2 43) [.ref (al 0 0), .ref (al 9 i), .int (nI c0)] al (mC Z ta pl al u) none (mC Z ta pl al (letOut u i c0)) := by
  refine GM.of (by decide) rfl (Nat.le_of_ble_eq_true rfl) ?_
  intro p e s m args below meth c X hnm
  have hiX0 : ∀ w ∈ u_ws RX0 TX0 4, w ∈ wsX4_letOut := by decide +kernel
  have hiX2 : ∀ w ∈ u_ws RX2 TX2 8, w ∈ wsX4_letOut := by decide +kernel
  have hiX4 : ∀ w ∈ u_ws RX4 TX4 13, w ∈ wsX4_letOut := by decide +kernel
  refine g_lv (lv' := [(0, .ref (al 0 0)), (1, .ref (al 9 i)), (2, .int (nI c0))]) [0, 1, 2] rfl ?_
  refine g_aload_n X 0 dX4_letOut_0 rfl rfl ?_
  refine g_aload_n X 1 dX4_letOut_1 rfl rfl ?_
  refine g_null X dX4_letOut_2 ?_
  refine g_callDV0 (n := 2) X 0 0 [.ref (al 9 i), .null] cx0 rfl (c_setTr_0 i (by omega) (by omega) ⟨by omega, by omega⟩ (by omega)) gX4_letOut_X4_setTraysOf rfl ⟨rfl, rfl⟩ (by decide +kernel) ⟨by decide, by decide⟩ rfl (Nat.le_of_ble_eq_true rfl) dX4_letOut_3 ⟨Nat.zero_le _, Nat.zero_le _⟩ _ rfl ?_
  generalize hu_1 : setTr u i 0 = u_1
  have k0u_1 : u_1 0 0 = u 0 0 := by rw [← hu_1]; exact setTr_ne (by decide)
  have k30u_1 : u_1 30 0 = u 30 0 := by rw [← hu_1]; exact setTr_ne (by decide)
  have k3u_1 : u_1 3 0 = u 3 0 := by rw [← hu_1]; exact setTr_ne (by decide)
  refine g_aload_n X 0 dX4_letOut_6 rfl rfl ?_
  refine g_dup X dX4_letOut_7 rfl ?_
  refine g_get X 0 0 cx0 rfl 9 (by decide) hiX4 (by decide +kernel) rfl rfl dX4_letOut_8 ?_
  refine g_iconst X (v := nI 1) dX4_letOut_11 (by decide) ?_
  have k4u_1 : u_1 4 0 = u 4 0 := by rw [← hu_1]; exact setTr_ne (by decide)
  refine g_isub X dX4_letOut_12 (pk_sub (by omega)) ?_
  refine g_put X tyX4 tyX4_ok nmX4 0 0 cx0 rfl 9 (by decide) hiX4 (by decide +kernel) rfl rfl (ty := .int) (by decide +kernel) rfl rfl (Nat.le_of_ble_eq_true rfl) _ up_carriedCount dX4_letOut_13 ?_
  generalize hu_2 : st u_1 4 0 ((u_1 4 0) - 1) = u_2
  have k0u_2 : u_2 0 0 = u_1 0 0 := by rw [← hu_2]; first | rfl | exact st_nf (by omega)
  have k30u_2 : u_2 30 0 = u_1 30 0 := by rw [← hu_2]; first | rfl | exact st_nf (by omega)
  have k3u_2 : u_2 3 0 = u_1 3 0 := by rw [← hu_2]; first | rfl | exact st_nf (by omega)
  refine g_aload_n X 0 dX4_letOut_16 rfl rfl ?_
  refine g_get X 0 0 cx0 rfl 4 (by decide) hiX4 (by decide +kernel) rfl rfl dX4_letOut_17 ?_
  refine g_iload_n X 2 dX4_letOut_20 rfl rfl ?_
  refine g_aald2 X 5 0 cx5 c0 (by omega) (by omega) (ar5 (by omega)) dX4_letOut_21 ?_
  refine g_dup X dX4_letOut_22 rfl ?_
  refine g_get X 6 c0 (cx6 (by omega)) rfl 2 (by decide) hiX0 (by decide +kernel) rfl rfl dX4_letOut_23 ?_
  refine g_iconst X (v := nI 1) dX4_letOut_26 (by decide) ?_
  refine g_iadd X dX4_letOut_27 (nI_add _ _) ?_
  refine g_put X tyX0 tyX0_ok nmX0 6 c0 (cx6 (by omega)) rfl 2 (by decide) hiX0 (by decide +kernel) rfl rfl (ty := .int) (by decide +kernel) rfl rfl (Nat.le_of_ble_eq_true rfl) _ (up_lying (by omega)) dX4_letOut_28 ?_
  generalize hu_3 : st u_2 18 c0 ((u_2 18 c0) + 1) = u_3
  have k0u_3 : u_3 0 0 = u_2 0 0 := by rw [← hu_3]; first | rfl | exact st_nf (by omega)
  have k30u_3 : u_3 30 0 = u_2 30 0 := by rw [← hu_3]; first | rfl | exact st_nf (by omega)
  have k3u_3 : u_3 3 0 = u_2 3 0 := by rw [← hu_3]; first | rfl | exact st_nf (by omega)
  refine g_aload_n X 1 dX4_letOut_31 rfl rfl ?_
  refine g_place X 3 (by decide) "OUT" rfl (by decide +kernel) dX4_letOut_32 ?_
  refine g_put X tyX2 tyX2_ok nmX2 9 i (cx9 ⟨by omega, by omega⟩) rfl 3 (by decide) hiX2 (by decide +kernel) rfl rfl (ty := .object "LoopSorter$Place") (by decide +kernel) rfl rfl (Nat.le_of_ble_eq_true rfl) _ (up_place ⟨by omega, by omega⟩) dX4_letOut_35 ?_
  generalize hu_4 : st u_3 23 i 3 = u_4
  have k0u_4 : u_4 0 0 = u_3 0 0 := by rw [← hu_4]; first | rfl | exact st_nf (by omega)
  have k30u_4 : u_4 30 0 = u_3 30 0 := by rw [← hu_4]; first | rfl | exact st_nf (by omega)
  have k3u_4 : u_4 3 0 = u_3 3 0 := by rw [← hu_4]; first | rfl | exact st_nf (by omega)
  refine g_aload_n X 1 dX4_letOut_38 rfl rfl ?_
  refine g_iload_n X 2 dX4_letOut_39 rfl rfl ?_
  refine g_put X tyX2 tyX2_ok nmX2 9 i (cx9 ⟨by omega, by omega⟩) rfl 6 (by decide) hiX2 (by decide +kernel) rfl rfl (ty := .int) (by decide +kernel) rfl rfl (Nat.le_of_ble_eq_true rfl) _ (up_outChute ⟨by omega, by omega⟩) dX4_letOut_40 ?_
  generalize hu_5 : st u_4 26 i c0 = u_5
  have k0u_5 : u_5 0 0 = u_4 0 0 := by rw [← hu_5]; first | rfl | exact st_nf (by omega)
  have k30u_5 : u_5 30 0 = u_4 30 0 := by rw [← hu_5]; first | rfl | exact st_nf (by omega)
  have k3u_5 : u_5 3 0 = u_4 3 0 := by rw [← hu_5]; first | rfl | exact st_nf (by omega)
  refine g_aload_n X 1 dX4_letOut_43 rfl rfl ?_
  refine g_aload_n X 0 dX4_letOut_44 rfl rfl ?_
  refine g_get X 0 0 cx0 rfl 11 (by decide) hiX4 (by decide +kernel) rfl rfl dX4_letOut_45 ?_
  refine g_put X tyX2 tyX2_ok nmX2 9 i (cx9 ⟨by omega, by omega⟩) rfl 7 (by decide) hiX2 (by decide +kernel) rfl rfl (ty := .int) (by decide +kernel) rfl rfl (Nat.le_of_ble_eq_true rfl) _ (up_outTime ⟨by omega, by omega⟩) dX4_letOut_48 ?_
  generalize hu_6 : st u_5 27 i (u_5 6 0) = u_6
  have k0u_6 : u_6 0 0 = u_5 0 0 := by rw [← hu_6]; first | rfl | exact st_nf (by omega)
  have k30u_6 : u_6 30 0 = u_5 30 0 := by rw [← hu_6]; first | rfl | exact st_nf (by omega)
  have k3u_6 : u_6 3 0 = u_5 3 0 := by rw [← hu_6]; first | rfl | exact st_nf (by omega)
  refine g_aload_n X 0 dX4_letOut_51 rfl rfl ?_
  refine g_get X 0 0 cx0 rfl 6 (by decide) hiX4 (by decide +kernel) rfl rfl dX4_letOut_52 ?_
  refine g_aload_n X 0 dX4_letOut_55 rfl rfl ?_
  refine g_get X 0 0 cx0 rfl 8 (by decide) hiX4 (by decide +kernel) rfl rfl dX4_letOut_56 ?_
  refine g_aload_n X 1 dX4_letOut_59 rfl rfl ?_
  refine g_aast0 X 8 0 9 i cx8 (cx9 ⟨by omega, by omega⟩) (u_6 3 0) (by omega) (by omega) _ (upr (by omega) (up_gone )) dX4_letOut_60 ?_
  generalize hu_7 : st u_6 10 (u_6 3 0) i = u_7
  have k0u_7 : u_7 0 0 = u_6 0 0 := by rw [← hu_7]; first | rfl | exact st_nf (by omega)
  have k30u_7 : u_7 30 0 = u_6 30 0 := by rw [← hu_7]; first | rfl | exact st_nf (by omega)
  have k3u_7 : u_7 3 0 = u_6 3 0 := by rw [← hu_7]; first | rfl | exact st_nf (by omega)
  refine g_aload_n X 0 dX4_letOut_61 rfl rfl ?_
  refine g_dup X dX4_letOut_62 rfl ?_
  refine g_get X 0 0 cx0 rfl 8 (by decide) hiX4 (by decide +kernel) rfl rfl dX4_letOut_63 ?_
  refine g_iconst X (v := nI 1) dX4_letOut_66 (by decide) ?_
  refine g_iadd X dX4_letOut_67 (nI_add _ _) ?_
  refine g_put X tyX4 tyX4_ok nmX4 0 0 cx0 rfl 8 (by decide) hiX4 (by decide +kernel) rfl rfl (ty := .int) (by decide +kernel) rfl rfl (Nat.le_of_ble_eq_true rfl) _ up_goneCount dX4_letOut_68 ?_
  generalize hu_8 : st u_7 3 0 ((u_7 3 0) + 1) = u_8
  have k0u_8 : u_8 0 0 = u_7 0 0 := by rw [← hu_8]; first | rfl | exact st_nf (by omega)
  have k30u_8 : u_8 30 0 = u_7 30 0 := by rw [← hu_8]; first | rfl | exact st_nf (by omega)
  exact g_vret X rfl dX4_letOut_71 ⟨rfl, rfl, by subst hu_1; subst hu_2; subst hu_3; subst hu_4; subst hu_5; subst hu_6; subst hu_7; subst hu_8; rfl⟩

set_option maxRecDepth 100000 in
set_option maxHeartbeats 4000000 in
/-- passChute -/
theorem c_passChute {l : Launch} {D : va_G} {ta : Nat → ClassId} {pl : Nat → Nat} {bs : Nat} {al : Ad} {Z : Wo} {u : St} (i c0 : Nat) (h1 : 1 ≤ u 0 0) (h2 : u 0 0 ≤ 200) (h3 : 1 ≤ i ∧ i ≤ u 30 0) (h4 : u 24 i < u 0 0) (h5 : c0 < 16) (h6 : 1 ≤ u 4 0) (h7 : u 3 0 < 400) : GD l D ta pl bs yX4_passChute wsX4_passChute (rmF 3 65) [.ref (al 0 0), .ref (al 9 i), .int (nI c0)] al (mC Z ta pl al u) none (mC Z ta pl al (passC u i c0)) := by
  refine GM.of (by decide) rfl (Nat.le_of_ble_eq_true rfl) ?_
  intro p e s m args below meth c X hnm
  have hiX2 : ∀ w ∈ u_ws RX2 TX2 8, w ∈ wsX4_passChute := by decide +kernel
  have hiX4 : ∀ w ∈ u_ws RX4 TX4 13, w ∈ wsX4_passChute := by decide +kernel
  refine g_lv (lv' := [(0, .ref (al 0 0)), (1, .ref (al 9 i)), (2, .int (nI c0))]) [0, 1, 2] rfl ?_
  refine g_aload_n X 1 dX4_passChute_0 rfl rfl ?_
  refine g_get X 9 i (cx9 ⟨by omega, by omega⟩) rfl 2 (by decide) hiX2 (by decide +kernel) rfl rfl dX4_passChute_1 ?_
  refine g_iload_n X 2 dX4_passChute_4 rfl rfl ?_
  refine g_icmp_ne X 12 dX4_passChute_5 (by decide) (Iff.rfl) (fun c_1 => ?_) (fun c_1 => ?_)
  · refine g_iconst X (v := nI 0) dX4_passChute_12 (by decide) ?_
    refine g_istore_n X [(3, .int (nI 0)), (0, .ref (al 0 0)), (1, .ref (al 9 i)), (2, .int (nI c0))] dX4_passChute_13 rfl (by decide) rfl ?_
    refine g_iload_n X 3 dX4_passChute_14 rfl rfl ?_
    refine g_bipush X (v := nI 15) dX4_passChute_15 (by decide) ?_
    refine g_icmp_ne X 35 dX4_passChute_17 (by decide) (nI_eq (by omega) (by omega)) (fun c_2 => ?_) (fun c_2 => ?_)
    · refine g_iconst X (v := nI 0) dX4_passChute_35 (by decide) ?_
      refine g_istore X [(4, .int (nI 0)), (3, .int (nI 0)), (0, .ref (al 0 0)), (1, .ref (al 9 i)), (2, .int (nI c0))] dX4_passChute_36 (by decide) rfl ?_
      refine g_iload_n X 1 dX4_passChute_38 rfl rfl ?_
      refine g_if_ne X 48 dX4_passChute_39 (by decide) (n0_eq (by omega)) (fun c_3 => ?_) (fun c_3 => ?_)
      · exact absurd c_3 (by decide)
      · refine g_iload X 0 dX4_passChute_42 rfl ?_
        refine g_if_ne X 48 dX4_passChute_44 (by decide) (n0_eq (by omega)) (fun c_4 => ?_) (fun c_4 => ?_)
        · exact absurd c_4 (by decide)
        · exact g_vret X rfl dX4_passChute_47 ⟨rfl, rfl, congrArg _ (by  first | exact passC_b (by assumption) (by assumption) | exact passC_e (by assumption) (by assumption) (by assumption) | exact passC_c (by assumption) (by assumption) | exact passC_d (by assumption) (by assumption) | exact passC_a (by assumption) (fun z => by first | exact absurd z.1 (by assumption) | exact z.2 (by assumption)))⟩
    · refine g_aload_n X 2 dX4_passChute_20 rfl rfl ?_
      refine g_get X 9 i (cx9 ⟨by omega, by omega⟩) rfl 5 (by decide) hiX2 (by decide +kernel) rfl rfl dX4_passChute_21 ?_
      refine g_aload_n X 1 dX4_passChute_24 rfl rfl ?_
      refine g_get X 0 0 cx0 rfl 1 (by decide) hiX4 (by decide +kernel) rfl rfl dX4_passChute_25 ?_
      refine g_icmp_lt X 35 dX4_passChute_28 (by decide) (Iff.rfl) (fun c_5 => ?_) (fun c_5 => ?_)
      · refine g_iconst X (v := nI 0) dX4_passChute_35 (by decide) ?_
        refine g_istore X [(4, .int (nI 0)), (3, .int (nI 0)), (0, .ref (al 0 0)), (1, .ref (al 9 i)), (2, .int (nI c0))] dX4_passChute_36 (by decide) rfl ?_
        refine g_iload_n X 1 dX4_passChute_38 rfl rfl ?_
        refine g_if_ne X 48 dX4_passChute_39 (by decide) (n0_eq (by omega)) (fun c_6 => ?_) (fun c_6 => ?_)
        · exact absurd c_6 (by decide)
        · refine g_iload X 0 dX4_passChute_42 rfl ?_
          refine g_if_ne X 48 dX4_passChute_44 (by decide) (n0_eq (by omega)) (fun c_7 => ?_) (fun c_7 => ?_)
          · exact absurd c_7 (by decide)
          · exact g_vret X rfl dX4_passChute_47 ⟨rfl, rfl, congrArg _ (by  first | exact passC_b (by assumption) (by assumption) | exact passC_e (by assumption) (by assumption) (by assumption) | exact passC_c (by assumption) (by assumption) | exact passC_d (by assumption) (by assumption) | exact passC_a (by assumption) (fun z => by first | exact absurd z.1 (by assumption) | exact z.2 (by assumption)))⟩
      · refine g_iconst X (v := nI 1) dX4_passChute_31 (by decide) ?_
        refine g_goto X 36 dX4_passChute_32 (by decide) ?_
        refine g_istore X [(4, .int (nI 1)), (3, .int (nI 0)), (0, .ref (al 0 0)), (1, .ref (al 9 i)), (2, .int (nI c0))] dX4_passChute_36 (by decide) rfl ?_
        refine g_iload_n X 1 dX4_passChute_38 rfl rfl ?_
        refine g_if_ne X 48 dX4_passChute_39 (by decide) (n0_eq (by omega)) (fun c_8 => ?_) (fun c_8 => ?_)
        · exact absurd c_8 (by decide)
        · refine g_iload X 0 dX4_passChute_42 rfl ?_
          refine g_if_ne X 48 dX4_passChute_44 (by decide) (n0_eq (by omega)) (fun c_9 => ?_) (fun c_9 => ?_)
          · refine g_aload_n X 2 dX4_passChute_48 rfl rfl ?_
            refine g_get X 0 0 cx0 rfl 4 (by decide) hiX4 (by decide +kernel) rfl rfl dX4_passChute_49 ?_
            refine g_iload_n X 4 dX4_passChute_52 rfl rfl ?_
            refine g_aald2 X 5 0 cx5 c0 (by omega) (by omega) (ar5 (by omega)) dX4_passChute_53 ?_
            refine g_callDV1 (n := 0) X 6 c0 [] (cx6 (by omega)) rfl (c_hasRoom c0 (by omega)) gX4_passChute_X0_hasRoom rfl ⟨rfl, rfl⟩ (by decide +kernel) ⟨by decide, by decide⟩ rfl (Nat.le_of_ble_eq_true rfl) dX4_passChute_54 ⟨Nat.zero_le _, Nat.zero_le _⟩ _ rfl ?_
            refine g_if_eq X 69 dX4_passChute_57 (by decide) (bN_eq0) (fun c_10 => ?_) (fun c_10 => ?_)
            · refine g_iload_n X 1 dX4_passChute_69 rfl rfl ?_
              refine g_if_eq X 83 dX4_passChute_70 (by decide) (n0_eq (by omega)) (fun c_11 => ?_) (fun c_11 => ?_)
              · exact g_vret X rfl dX4_passChute_83 ⟨rfl, rfl, congrArg _ (by  first | exact passC_b (by assumption) (by assumption) | exact passC_e (by assumption) (by assumption) (by assumption) | exact passC_c (by assumption) (by assumption) | exact passC_d (by assumption) (by assumption) | exact passC_a (by assumption) (fun z => by first | exact absurd z.1 (by assumption) | exact z.2 (by assumption)))⟩
              · exact absurd c_11 (by decide)
            · have c_10 := Decidable.of_not_not c_10
              refine g_aload_n X 2 dX4_passChute_60 rfl rfl ?_
              refine g_aload_n X 3 dX4_passChute_61 rfl rfl ?_
              refine g_iload_n X 4 dX4_passChute_62 rfl rfl ?_
              refine g_callDV0 (n := 2) X 0 0 [.ref (al 9 i), .int (nI c0)] cx0 rfl (c_letOut i c0 (by omega) (by omega) ⟨by omega, by omega⟩ (by omega) (by omega) (by omega) (by omega)) gX4_passChute_X4_letOut rfl ⟨rfl, rfl⟩ (by decide +kernel) ⟨by decide, by decide⟩ rfl (Nat.le_of_ble_eq_true rfl) dX4_passChute_63 ⟨Nat.zero_le _, Nat.zero_le _⟩ _ rfl ?_
              generalize hu_12 : letOut u i c0 = u_12
              have k0u_12 : u_12 0 0 = u 0 0 := by rw [← hu_12]; exact letOut_k (by omega)
              have k30u_12 : u_12 30 0 = u 30 0 := by rw [← hu_12]; exact letOut_k (by omega)
              refine g_goto X 83 dX4_passChute_66 (by decide) ?_
              exact g_vret X rfl dX4_passChute_83 ⟨rfl, rfl, congrArg _ (by subst hu_12; first | exact passC_b (by assumption) (by assumption) | exact passC_e (by assumption) (by assumption) (by assumption) | exact passC_c (by assumption) (by assumption) | exact passC_d (by assumption) (by assumption) | exact passC_a (by assumption) (fun z => by first | exact absurd z.1 (by assumption) | exact z.2 (by assumption)))⟩
          · exact absurd c_9 (by decide)
  · refine g_iconst X (v := nI 1) dX4_passChute_8 (by decide) ?_
    refine g_goto X 13 dX4_passChute_9 (by decide) ?_
    refine g_istore_n X [(3, .int (nI 1)), (0, .ref (al 0 0)), (1, .ref (al 9 i)), (2, .int (nI c0))] dX4_passChute_13 rfl (by decide) rfl ?_
    refine g_iload_n X 3 dX4_passChute_14 rfl rfl ?_
    refine g_bipush X (v := nI 15) dX4_passChute_15 (by decide) ?_
    refine g_icmp_ne X 35 dX4_passChute_17 (by decide) (nI_eq (by omega) (by omega)) (fun c_13 => ?_) (fun c_13 => ?_)
    · refine g_iconst X (v := nI 0) dX4_passChute_35 (by decide) ?_
      refine g_istore X [(4, .int (nI 0)), (3, .int (nI 1)), (0, .ref (al 0 0)), (1, .ref (al 9 i)), (2, .int (nI c0))] dX4_passChute_36 (by decide) rfl ?_
      refine g_iload_n X 1 dX4_passChute_38 rfl rfl ?_
      refine g_if_ne X 48 dX4_passChute_39 (by decide) (n0_eq (by omega)) (fun c_14 => ?_) (fun c_14 => ?_)
      · refine g_aload_n X 2 dX4_passChute_48 rfl rfl ?_
        refine g_get X 0 0 cx0 rfl 4 (by decide) hiX4 (by decide +kernel) rfl rfl dX4_passChute_49 ?_
        refine g_iload_n X 4 dX4_passChute_52 rfl rfl ?_
        refine g_aald2 X 5 0 cx5 c0 (by omega) (by omega) (ar5 (by omega)) dX4_passChute_53 ?_
        refine g_callDV1 (n := 0) X 6 c0 [] (cx6 (by omega)) rfl (c_hasRoom c0 (by omega)) gX4_passChute_X0_hasRoom rfl ⟨rfl, rfl⟩ (by decide +kernel) ⟨by decide, by decide⟩ rfl (Nat.le_of_ble_eq_true rfl) dX4_passChute_54 ⟨Nat.zero_le _, Nat.zero_le _⟩ _ rfl ?_
        refine g_if_eq X 69 dX4_passChute_57 (by decide) (bN_eq0) (fun c_15 => ?_) (fun c_15 => ?_)
        · refine g_iload_n X 1 dX4_passChute_69 rfl rfl ?_
          refine g_if_eq X 83 dX4_passChute_70 (by decide) (n0_eq (by omega)) (fun c_16 => ?_) (fun c_16 => ?_)
          · exact absurd c_16 (by decide)
          · refine g_aload_n X 3 dX4_passChute_73 rfl rfl ?_
            refine g_dup X dX4_passChute_74 rfl ?_
            refine g_get X 9 i (cx9 ⟨by omega, by omega⟩) rfl 5 (by decide) hiX2 (by decide +kernel) rfl rfl dX4_passChute_75 ?_
            refine g_iconst X (v := nI 1) dX4_passChute_78 (by decide) ?_
            refine g_iadd X dX4_passChute_79 (nI_add _ _) ?_
            refine g_put X tyX2 tyX2_ok nmX2 9 i (cx9 ⟨by omega, by omega⟩) rfl 5 (by decide) hiX2 (by decide +kernel) rfl rfl (ty := .int) (by decide +kernel) rfl rfl (Nat.le_of_ble_eq_true rfl) _ (up_rounds ⟨by omega, by omega⟩) dX4_passChute_80 ?_
            generalize hu_17 : st u 25 i ((u 25 i) + 1) = u_17
            have k0u_17 : u_17 0 0 = u 0 0 := by rw [← hu_17]; first | rfl | exact st_nf (by omega)
            have k30u_17 : u_17 30 0 = u 30 0 := by rw [← hu_17]; first | rfl | exact st_nf (by omega)
            exact g_vret X rfl dX4_passChute_83 ⟨rfl, rfl, congrArg _ (by subst hu_17; first | exact passC_b (by assumption) (by assumption) | exact passC_e (by assumption) (by assumption) (by assumption) | exact passC_c (by assumption) (by assumption) | exact passC_d (by assumption) (by assumption) | exact passC_a (by assumption) (fun z => by first | exact absurd z.1 (by assumption) | exact z.2 (by assumption)))⟩
        · have c_15 := Decidable.of_not_not c_15
          refine g_aload_n X 2 dX4_passChute_60 rfl rfl ?_
          refine g_aload_n X 3 dX4_passChute_61 rfl rfl ?_
          refine g_iload_n X 4 dX4_passChute_62 rfl rfl ?_
          refine g_callDV0 (n := 2) X 0 0 [.ref (al 9 i), .int (nI c0)] cx0 rfl (c_letOut i c0 (by omega) (by omega) ⟨by omega, by omega⟩ (by omega) (by omega) (by omega) (by omega)) gX4_passChute_X4_letOut rfl ⟨rfl, rfl⟩ (by decide +kernel) ⟨by decide, by decide⟩ rfl (Nat.le_of_ble_eq_true rfl) dX4_passChute_63 ⟨Nat.zero_le _, Nat.zero_le _⟩ _ rfl ?_
          generalize hu_18 : letOut u i c0 = u_18
          have k0u_18 : u_18 0 0 = u 0 0 := by rw [← hu_18]; exact letOut_k (by omega)
          have k30u_18 : u_18 30 0 = u 30 0 := by rw [← hu_18]; exact letOut_k (by omega)
          refine g_goto X 83 dX4_passChute_66 (by decide) ?_
          exact g_vret X rfl dX4_passChute_83 ⟨rfl, rfl, congrArg _ (by subst hu_18; first | exact passC_b (by assumption) (by assumption) | exact passC_e (by assumption) (by assumption) (by assumption) | exact passC_c (by assumption) (by assumption) | exact passC_d (by assumption) (by assumption) | exact passC_a (by assumption) (fun z => by first | exact absurd z.1 (by assumption) | exact z.2 (by assumption)))⟩
      · exact absurd c_14 (by decide)
    · refine g_aload_n X 2 dX4_passChute_20 rfl rfl ?_
      refine g_get X 9 i (cx9 ⟨by omega, by omega⟩) rfl 5 (by decide) hiX2 (by decide +kernel) rfl rfl dX4_passChute_21 ?_
      refine g_aload_n X 1 dX4_passChute_24 rfl rfl ?_
      refine g_get X 0 0 cx0 rfl 1 (by decide) hiX4 (by decide +kernel) rfl rfl dX4_passChute_25 ?_
      refine g_icmp_lt X 35 dX4_passChute_28 (by decide) (Iff.rfl) (fun c_19 => ?_) (fun c_19 => ?_)
      · refine g_iconst X (v := nI 0) dX4_passChute_35 (by decide) ?_
        refine g_istore X [(4, .int (nI 0)), (3, .int (nI 1)), (0, .ref (al 0 0)), (1, .ref (al 9 i)), (2, .int (nI c0))] dX4_passChute_36 (by decide) rfl ?_
        refine g_iload_n X 1 dX4_passChute_38 rfl rfl ?_
        refine g_if_ne X 48 dX4_passChute_39 (by decide) (n0_eq (by omega)) (fun c_20 => ?_) (fun c_20 => ?_)
        · refine g_aload_n X 2 dX4_passChute_48 rfl rfl ?_
          refine g_get X 0 0 cx0 rfl 4 (by decide) hiX4 (by decide +kernel) rfl rfl dX4_passChute_49 ?_
          refine g_iload_n X 4 dX4_passChute_52 rfl rfl ?_
          refine g_aald2 X 5 0 cx5 c0 (by omega) (by omega) (ar5 (by omega)) dX4_passChute_53 ?_
          refine g_callDV1 (n := 0) X 6 c0 [] (cx6 (by omega)) rfl (c_hasRoom c0 (by omega)) gX4_passChute_X0_hasRoom rfl ⟨rfl, rfl⟩ (by decide +kernel) ⟨by decide, by decide⟩ rfl (Nat.le_of_ble_eq_true rfl) dX4_passChute_54 ⟨Nat.zero_le _, Nat.zero_le _⟩ _ rfl ?_
          refine g_if_eq X 69 dX4_passChute_57 (by decide) (bN_eq0) (fun c_21 => ?_) (fun c_21 => ?_)
          · refine g_iload_n X 1 dX4_passChute_69 rfl rfl ?_
            refine g_if_eq X 83 dX4_passChute_70 (by decide) (n0_eq (by omega)) (fun c_22 => ?_) (fun c_22 => ?_)
            · exact absurd c_22 (by decide)
            · refine g_aload_n X 3 dX4_passChute_73 rfl rfl ?_
              refine g_dup X dX4_passChute_74 rfl ?_
              refine g_get X 9 i (cx9 ⟨by omega, by omega⟩) rfl 5 (by decide) hiX2 (by decide +kernel) rfl rfl dX4_passChute_75 ?_
              refine g_iconst X (v := nI 1) dX4_passChute_78 (by decide) ?_
              refine g_iadd X dX4_passChute_79 (nI_add _ _) ?_
              refine g_put X tyX2 tyX2_ok nmX2 9 i (cx9 ⟨by omega, by omega⟩) rfl 5 (by decide) hiX2 (by decide +kernel) rfl rfl (ty := .int) (by decide +kernel) rfl rfl (Nat.le_of_ble_eq_true rfl) _ (up_rounds ⟨by omega, by omega⟩) dX4_passChute_80 ?_
              generalize hu_23 : st u 25 i ((u 25 i) + 1) = u_23
              have k0u_23 : u_23 0 0 = u 0 0 := by rw [← hu_23]; first | rfl | exact st_nf (by omega)
              have k30u_23 : u_23 30 0 = u 30 0 := by rw [← hu_23]; first | rfl | exact st_nf (by omega)
              exact g_vret X rfl dX4_passChute_83 ⟨rfl, rfl, congrArg _ (by subst hu_23; first | exact passC_b (by assumption) (by assumption) | exact passC_e (by assumption) (by assumption) (by assumption) | exact passC_c (by assumption) (by assumption) | exact passC_d (by assumption) (by assumption) | exact passC_a (by assumption) (fun z => by first | exact absurd z.1 (by assumption) | exact z.2 (by assumption)))⟩
          · have c_21 := Decidable.of_not_not c_21
            refine g_aload_n X 2 dX4_passChute_60 rfl rfl ?_
            refine g_aload_n X 3 dX4_passChute_61 rfl rfl ?_
            refine g_iload_n X 4 dX4_passChute_62 rfl rfl ?_
            refine g_callDV0 (n := 2) X 0 0 [.ref (al 9 i), .int (nI c0)] cx0 rfl (c_letOut i c0 (by omega) (by omega) ⟨by omega, by omega⟩ (by omega) (by omega) (by omega) (by omega)) gX4_passChute_X4_letOut rfl ⟨rfl, rfl⟩ (by decide +kernel) ⟨by decide, by decide⟩ rfl (Nat.le_of_ble_eq_true rfl) dX4_passChute_63 ⟨Nat.zero_le _, Nat.zero_le _⟩ _ rfl ?_
            generalize hu_24 : letOut u i c0 = u_24
            have k0u_24 : u_24 0 0 = u 0 0 := by rw [← hu_24]; exact letOut_k (by omega)
            have k30u_24 : u_24 30 0 = u 30 0 := by rw [← hu_24]; exact letOut_k (by omega)
            refine g_goto X 83 dX4_passChute_66 (by decide) ?_
            exact g_vret X rfl dX4_passChute_83 ⟨rfl, rfl, congrArg _ (by subst hu_24; first | exact passC_b (by assumption) (by assumption) | exact passC_e (by assumption) (by assumption) (by assumption) | exact passC_c (by assumption) (by assumption) | exact passC_d (by assumption) (by assumption) | exact passC_a (by assumption) (fun z => by first | exact absurd z.1 (by assumption) | exact z.2 (by assumption)))⟩
        · exact absurd c_20 (by decide)
      · refine g_iconst X (v := nI 1) dX4_passChute_31 (by decide) ?_
        refine g_goto X 36 dX4_passChute_32 (by decide) ?_
        refine g_istore X [(4, .int (nI 1)), (3, .int (nI 1)), (0, .ref (al 0 0)), (1, .ref (al 9 i)), (2, .int (nI c0))] dX4_passChute_36 (by decide) rfl ?_
        refine g_iload_n X 1 dX4_passChute_38 rfl rfl ?_
        refine g_if_ne X 48 dX4_passChute_39 (by decide) (n0_eq (by omega)) (fun c_25 => ?_) (fun c_25 => ?_)
        · refine g_aload_n X 2 dX4_passChute_48 rfl rfl ?_
          refine g_get X 0 0 cx0 rfl 4 (by decide) hiX4 (by decide +kernel) rfl rfl dX4_passChute_49 ?_
          refine g_iload_n X 4 dX4_passChute_52 rfl rfl ?_
          refine g_aald2 X 5 0 cx5 c0 (by omega) (by omega) (ar5 (by omega)) dX4_passChute_53 ?_
          refine g_callDV1 (n := 0) X 6 c0 [] (cx6 (by omega)) rfl (c_hasRoom c0 (by omega)) gX4_passChute_X0_hasRoom rfl ⟨rfl, rfl⟩ (by decide +kernel) ⟨by decide, by decide⟩ rfl (Nat.le_of_ble_eq_true rfl) dX4_passChute_54 ⟨Nat.zero_le _, Nat.zero_le _⟩ _ rfl ?_
          refine g_if_eq X 69 dX4_passChute_57 (by decide) (bN_eq0) (fun c_26 => ?_) (fun c_26 => ?_)
          · refine g_iload_n X 1 dX4_passChute_69 rfl rfl ?_
            refine g_if_eq X 83 dX4_passChute_70 (by decide) (n0_eq (by omega)) (fun c_27 => ?_) (fun c_27 => ?_)
            · exact absurd c_27 (by decide)
            · refine g_aload_n X 3 dX4_passChute_73 rfl rfl ?_
              refine g_dup X dX4_passChute_74 rfl ?_
              refine g_get X 9 i (cx9 ⟨by omega, by omega⟩) rfl 5 (by decide) hiX2 (by decide +kernel) rfl rfl dX4_passChute_75 ?_
              refine g_iconst X (v := nI 1) dX4_passChute_78 (by decide) ?_
              refine g_iadd X dX4_passChute_79 (nI_add _ _) ?_
              refine g_put X tyX2 tyX2_ok nmX2 9 i (cx9 ⟨by omega, by omega⟩) rfl 5 (by decide) hiX2 (by decide +kernel) rfl rfl (ty := .int) (by decide +kernel) rfl rfl (Nat.le_of_ble_eq_true rfl) _ (up_rounds ⟨by omega, by omega⟩) dX4_passChute_80 ?_
              generalize hu_28 : st u 25 i ((u 25 i) + 1) = u_28
              have k0u_28 : u_28 0 0 = u 0 0 := by rw [← hu_28]; first | rfl | exact st_nf (by omega)
              have k30u_28 : u_28 30 0 = u 30 0 := by rw [← hu_28]; first | rfl | exact st_nf (by omega)
              exact g_vret X rfl dX4_passChute_83 ⟨rfl, rfl, congrArg _ (by subst hu_28; first | exact passC_b (by assumption) (by assumption) | exact passC_e (by assumption) (by assumption) (by assumption) | exact passC_c (by assumption) (by assumption) | exact passC_d (by assumption) (by assumption) | exact passC_a (by assumption) (fun z => by first | exact absurd z.1 (by assumption) | exact z.2 (by assumption)))⟩
          · have c_26 := Decidable.of_not_not c_26
            refine g_aload_n X 2 dX4_passChute_60 rfl rfl ?_
            refine g_aload_n X 3 dX4_passChute_61 rfl rfl ?_
            refine g_iload_n X 4 dX4_passChute_62 rfl rfl ?_
            refine g_callDV0 (n := 2) X 0 0 [.ref (al 9 i), .int (nI c0)] cx0 rfl (c_letOut i c0 (by omega) (by omega) ⟨by omega, by omega⟩ (by omega) (by omega) (by omega) (by omega)) gX4_passChute_X4_letOut rfl ⟨rfl, rfl⟩ (by decide +kernel) ⟨by decide, by decide⟩ rfl (Nat.le_of_ble_eq_true rfl) dX4_passChute_63 ⟨Nat.zero_le _, Nat.zero_le _⟩ _ rfl ?_
            generalize hu_29 : letOut u i c0 = u_29
            have k0u_29 : u_29 0 0 = u 0 0 := by rw [← hu_29]; exact letOut_k (by omega)
            have k30u_29 : u_29 30 0 = u 30 0 := by rw [← hu_29]; exact letOut_k (by omega)
            refine g_goto X 83 dX4_passChute_66 (by decide) ?_
            exact g_vret X rfl dX4_passChute_83 ⟨rfl, rfl, congrArg _ (by subst hu_29; first | exact passC_b (by assumption) (by assumption) | exact passC_e (by assumption) (by assumption) (by assumption) | exact passC_c (by assumption) (by assumption) | exact passC_d (by assumption) (by assumption) | exact passC_a (by assumption) (fun z => by first | exact absurd z.1 (by assumption) | exact z.2 (by assumption)))⟩
        · exact absurd c_25 (by decide)

set_option maxRecDepth 100000 in
set_option maxHeartbeats 4000000 in
/-- the loop of passChutes at 2:  -/
theorem l_passChutes {l : Launch} {D : va_G} {ta : Nat → ClassId} {pl : Nat → Nat} {bs : Nat} {al : Ad} {Z : Wo} {p : Program} {e : Env} {s : State} {m : MethodId} {args : Array Value} {below : List Frame} {meth : Method} {c : Code} {u : St} (X : Cx D ta pl bs 4 p s m args meth c cX4_passChutes wsX4_passChutes RX4 none)  (h0 : Iv u) : ∀ (n9 i : Nat), i ≤ 16 → 16 + 1 ≤ i + n9 → WW D bs 4 p l e (rmF 4 89) s m args below meth c (QQ D bs below args s 0 0 (fun r al' C' => r = none ∧ al' = al ∧ C' = mC Z ta pl al (passN 16 u))) al (mC Z ta pl al (passN i u)) 0 0 2 [(1, .int (nI i)), (0, .ref (al 0 0))] [] := by
  have hiX0 : ∀ w ∈ u_ws RX0 TX0 4, w ∈ wsX4_passChutes := by decide +kernel
  have hiX2 : ∀ w ∈ u_ws RX2 TX2 8, w ∈ wsX4_passChutes := by decide +kernel
  have hiX4 : ∀ w ∈ u_ws RX4 TX4 13, w ∈ wsX4_passChutes := by decide +kernel
  intro n9
  induction n9 with
  | zero => intro i h8 h9; exact absurd h9 (by omega)
  | succ n9 ih =>
    intro i h8 h9
    have hI := Iv_passN h0 i h8
    generalize hw : passN i u = w at *
    obtain ⟨⟨h1, h2, h7, hN, h30, -, -⟩, hI2, hI3, -⟩ := id hI
    refine g_iload_n X 0 dX4_passChutes_2 rfl rfl ?_
    refine g_bipush X (v := nI 16) dX4_passChutes_3 (by decide) ?_
    refine g_icmp_ge X 63 dX4_passChutes_5 (by decide) (nI_leI (by omega) (by omega)) (fun c_1 => ?_) (fun c_1 => ?_)
    · exact g_vret X rfl dX4_passChutes_63 ⟨rfl, rfl, by subst hw; have e9 : i = 16 := (by omega); rw [e9]⟩
    · refine g_aload_n X 1 dX4_passChutes_8 rfl rfl ?_
      refine g_aload_n X 1 dX4_passChutes_9 rfl rfl ?_
      refine g_get X 0 0 cx0 rfl 4 (by decide) hiX4 (by decide +kernel) rfl rfl dX4_passChutes_10 ?_
      refine g_iload_n X 0 dX4_passChutes_13 rfl rfl ?_
      refine g_aald2 X 5 0 cx5 i (by omega) (by omega) (ar5 (by omega)) dX4_passChutes_14 ?_
      refine g_get X 6 i (cx6 (by omega)) rfl 0 (by decide) hiX0 (by decide +kernel) rfl rfl dX4_passChutes_15 ?_
      have hp9 := pos6_lt (c := i) (T := w 0 0) (by omega) (by omega) (by omega)
      have hq_2 : tA w ((i * w 0 0 + w 0 0 / 2) / 16) < w 0 0 := tA_lt (by omega) (by omega)
      refine g_callDV1 (n := 1) X 0 0 [.int (nI ((i * w 0 0 + w 0 0 / 2) / 16))] cx0 rfl (c_trayAt ((i * w 0 0 + w 0 0 / 2) / 16) (by omega) (by omega) (by omega) (by omega)) gX4_passChutes_X4_trayAt rfl ⟨rfl, rfl⟩ (by decide +kernel) ⟨by decide, by decide⟩ rfl (Nat.le_of_ble_eq_true rfl) dX4_passChutes_18 ⟨Nat.zero_le _, Nat.zero_le _⟩ _ rfl ?_
      refine g_istore_n X [(2, .int (nI (tA w ((i * w 0 0 + w 0 0 / 2) / 16)))), (1, .int (nI i)), (0, .ref (al 0 0))] dX4_passChutes_21 rfl (by decide) rfl ?_
      refine g_aload_n X 2 dX4_passChutes_22 rfl rfl ?_
      refine g_get X 0 0 cx0 rfl 2 (by decide) hiX4 (by decide +kernel) rfl rfl dX4_passChutes_23 ?_
      refine g_iload_n X 0 dX4_passChutes_26 rfl rfl ?_
      by_cases b_3 : w 8 (tA w ((i * w 0 0 + w 0 0 / 2) / 16)) = 0
      · refine g_aald0 X 1 0 cx1 (tA w ((i * w 0 0 + w 0 0 / 2) / 16)) (by omega) (by omega) (rI_v0 b_3) dX4_passChutes_27 ?_
        refine g_astore_nN X [(3, .null), (2, .int (nI (tA w ((i * w 0 0 + w 0 0 / 2) / 16)))), (1, .int (nI i)), (0, .ref (al 0 0))] dX4_passChutes_28 rfl (by decide) rfl ?_
        refine g_aload_nN X 0 dX4_passChutes_29 rfl rfl ?_
        refine g_ifnull_n X 57 dX4_passChutes_30 (by decide) ?_
        refine g_iinc X 2 [(1, .int (nI (i + 1))), (3, .null), (2, .int (nI (tA w ((i * w 0 0 + w 0 0 / 2) / 16)))), (0, .ref (al 0 0))] dX4_passChutes_57 rfl (nI_inc (by decide)) (by decide) rfl ?_
        refine g_goto X 2 dX4_passChutes_60 (by decide) ?_
        refine g_lv [0, 3] rfl ?_
        have e9 : passN (i + 1) u = w := by show passOne (passN i u) i = _; rw [hw, passOne, if_neg (fun z => z.1 b_3)]
        have q9 := ih (i + 1) (by omega) (by omega)
        rw [e9] at q9
        exact q9
      · refine g_aald0 X 1 0 cx1 (tA w ((i * w 0 0 + w 0 0 / 2) / 16)) (by omega) (by omega) (rI_vp b_3) dX4_passChutes_27 ?_
        have hv9 := (hI3 ((tA w ((i * w 0 0 + w 0 0 / 2) / 16)))).1
        obtain ⟨hp1, hp2, hp3, hp4, hp5, -⟩ := hI2 (w 8 (tA w ((i * w 0 0 + w 0 0 / 2) / 16))) (by omega) (by omega)
        refine g_astore_n X [(3, .ref (al 9 (w 8 (tA w ((i * w 0 0 + w 0 0 / 2) / 16))))), (2, .int (nI (tA w ((i * w 0 0 + w 0 0 / 2) / 16)))), (1, .int (nI i)), (0, .ref (al 0 0))] dX4_passChutes_28 rfl (by decide) rfl ?_
        refine g_aload_n X 0 dX4_passChutes_29 rfl rfl ?_
        refine g_ifnull_r X dX4_passChutes_30 ?_
        refine g_aload_n X 0 dX4_passChutes_33 rfl rfl ?_
        refine g_get X 9 (w 8 (tA w ((i * w 0 0 + w 0 0 / 2) / 16))) (cx9 ⟨by omega, by omega⟩) rfl 4 (by decide) hiX2 (by decide +kernel) rfl rfl dX4_passChutes_34 ?_
        refine g_iload_n X 1 dX4_passChutes_37 rfl rfl ?_
        refine g_icmp_ne X 57 dX4_passChutes_38 (by decide) (nI_eq (by omega) (by omega)) (fun c_4 => ?_) (fun c_4 => ?_)
        · refine g_iinc X 2 [(1, .int (nI (i + 1))), (3, .ref (al 9 (w 8 (tA w ((i * w 0 0 + w 0 0 / 2) / 16))))), (2, .int (nI (tA w ((i * w 0 0 + w 0 0 / 2) / 16)))), (0, .ref (al 0 0))] dX4_passChutes_57 rfl (nI_inc (by decide)) (by decide) rfl ?_
          refine g_goto X 2 dX4_passChutes_60 (by decide) ?_
          refine g_lv [0, 3] rfl ?_
          have e9 : passN (i + 1) u = w := by show passOne (passN i u) i = _; rw [hw, passOne, if_neg (fun z => c_4 z.2.1)]
          have q9 := ih (i + 1) (by omega) (by omega)
          rw [e9] at q9
          exact q9
        · refine g_aload_n X 0 dX4_passChutes_41 rfl rfl ?_
          refine g_get X 9 (w 8 (tA w ((i * w 0 0 + w 0 0 / 2) / 16))) (cx9 ⟨by omega, by omega⟩) rfl 3 (by decide) hiX2 (by decide +kernel) rfl rfl dX4_passChutes_42 ?_
          refine g_place X 1 (by decide) "CARRIED" rfl (by decide +kernel) dX4_passChutes_45 ?_
          refine g_acmp_ne X 57 dX4_passChutes_48 (by decide) (plI X.2.2.2 (by omega) (by omega)) (fun c_5 => ?_) (fun c_5 => ?_)
          · refine g_iinc X 2 [(1, .int (nI (i + 1))), (3, .ref (al 9 (w 8 (tA w ((i * w 0 0 + w 0 0 / 2) / 16))))), (2, .int (nI (tA w ((i * w 0 0 + w 0 0 / 2) / 16)))), (0, .ref (al 0 0))] dX4_passChutes_57 rfl (nI_inc (by decide)) (by decide) rfl ?_
            refine g_goto X 2 dX4_passChutes_60 (by decide) ?_
            refine g_lv [0, 3] rfl ?_
            have e9 : passN (i + 1) u = w := by show passOne (passN i u) i = _; rw [hw, passOne, if_neg (fun z => c_5 z.2.2)]
            have q9 := ih (i + 1) (by omega) (by omega)
            rw [e9] at q9
            exact q9
          · obtain ⟨hc1, hc2, -⟩ := hI.carry (by omega) (by omega) c_5
            refine g_aload_n X 3 dX4_passChutes_51 rfl rfl ?_
            refine g_aload_n X 0 dX4_passChutes_52 rfl rfl ?_
            refine g_iload_n X 2 dX4_passChutes_53 rfl rfl ?_
            refine g_callDV0 (n := 2) X 0 0 [.ref (al 9 (w 8 (tA w ((i * w 0 0 + w 0 0 / 2) / 16)))), .int (nI i)] cx0 rfl (c_passChute (w 8 (tA w ((i * w 0 0 + w 0 0 / 2) / 16))) i (by omega) (by omega) ⟨by omega, by omega⟩ (by omega) (by omega) (by omega) (by omega)) gX4_passChutes_X4_passChute rfl ⟨rfl, rfl⟩ (by decide +kernel) ⟨by decide, by decide⟩ rfl (Nat.le_of_ble_eq_true rfl) dX4_passChutes_54 ⟨Nat.zero_le _, Nat.zero_le _⟩ _ rfl ?_
            generalize hu_6 : passC w (w 8 (tA w ((i * w 0 0 + w 0 0 / 2) / 16))) i = u_6
            have k0u_6 : u_6 0 0 = w 0 0 := by rw [← hu_6]; exact passC_k (by omega)
            have k30u_6 : u_6 30 0 = w 30 0 := by rw [← hu_6]; exact passC_k (by omega)
            refine g_iinc X 2 [(1, .int (nI (i + 1))), (3, .ref (al 9 (w 8 (tA w ((i * w 0 0 + w 0 0 / 2) / 16))))), (2, .int (nI (tA w ((i * w 0 0 + w 0 0 / 2) / 16)))), (0, .ref (al 0 0))] dX4_passChutes_57 rfl (nI_inc (by decide)) (by decide) rfl ?_
            refine g_goto X 2 dX4_passChutes_60 (by decide) ?_
            refine g_lv [0, 3] rfl ?_
            have e9 : passN (i + 1) u = u_6 := by show passOne (passN i u) i = _; rw [hw, passOne, if_pos ⟨b_3, c_4, c_5⟩]; exact hu_6
            have q9 := ih (i + 1) (by omega) (by omega)
            rw [e9] at q9
            exact q9

set_option maxRecDepth 100000 in
set_option maxHeartbeats 4000000 in
/-- passChutes -/
theorem c_passChutes {l : Launch} {D : va_G} {ta : Nat → ClassId} {pl : Nat → Nat} {bs : Nat} {al : Ad} {Z : Wo} {u : St}  (h0 : Iv u) : GD l D ta pl bs yX4_passChutes wsX4_passChutes (rmF 4 89) [.ref (al 0 0)] al (mC Z ta pl al u) none (mC Z ta pl al (passN 16 u)) := by
  refine GM.of (by decide) rfl (Nat.le_of_ble_eq_true rfl) ?_
  intro p e s m args below meth c X hnm
  refine g_lv (lv' := [(0, .ref (al 0 0))]) [0] rfl ?_
  refine g_iconst X (v := nI 0) dX4_passChutes_0 (by decide) ?_
  refine g_istore_n X [(1, .int (nI 0)), (0, .ref (al 0 0))] dX4_passChutes_1 rfl (by decide) rfl ?_
  refine g_lv [0, 1] rfl ?_
  exact l_passChutes X h0 17 0 (Nat.zero_le _) (Nat.le_refl _)
end
section
set_option maxRecDepth 100000 in
set_option maxHeartbeats 4000000 in
/-- the loop of nextInTurn -/
theorem l_nextInTurn {l : Launch} {D : va_G} {ta : Nat → ClassId} {pl : Nat → Nat} {bs : Nat} {al : Ad} {Z : Wo} {p : Program} {e : Env} {s : State} {m : MethodId} {args : Array Value} {below : List Frame} {meth : Method} {c : Code} {u : St} (X : Cx D ta pl bs 4 p s m args meth c cX4_nextInTurn wsX4_nextInTurn RX4 (some (.object "LoopSorter$Induct"))) : ∀ (n9 i : Nat), i ≤ 4 → 4 + 1 ≤ i + n9 → WW D bs 4 p l e (rmF 0 0) s m args below meth c (QQ D bs below args s 0 0 (fun r al' C' => r = some (rN al (nxT u 4)) ∧ al' = al ∧ C' = mC Z ta pl al u)) al (mC Z ta pl al u) 0 0 4 [(2, .int (nI i)), (1, rN al (nxT u i)), (0, .ref (al 0 0))] [] := by
  have hiX1 : ∀ w ∈ u_ws RX1 TX1 5, w ∈ wsX4_nextInTurn := by decide +kernel
  have hiX4 : ∀ w ∈ u_ws RX4 TX4 13, w ∈ wsX4_nextInTurn := by decide +kernel
  intro n9
  induction n9 with
  | zero => intro i h8 h9; exact absurd h9 (by omega)
  | succ n9 ih =>
    intro i h8 h9
    have hn9 := nxT_le (u := u) i
    by_cases hz : nxT u i = 0
    · rw [rN_0 hz]
      refine g_iload_n X 0 dX4_nextInTurn_4 rfl rfl ?_
      refine g_iconst X (v := nI 4) dX4_nextInTurn_5 (by decide) ?_
      refine g_icmp_ge X 47 dX4_nextInTurn_6 (by decide) (nI_leI (by omega) (by omega)) (fun c_1 => ?_) (fun c_1 => ?_)
      · refine g_aload_nN X 1 dX4_nextInTurn_47 rfl rfl ?_
        exact g_aret X rfl ⟨_, rfl⟩ (Or.inl rfl) dX4_nextInTurn_48 ⟨by have e9 : i = 4 := (by omega); rw [← e9, rN_0 hz], rfl, rfl⟩
      · refine g_aload_n X 2 dX4_nextInTurn_9 rfl rfl ?_
        refine g_get X 0 0 cx0 rfl 3 (by decide) hiX4 (by decide +kernel) rfl rfl dX4_nextInTurn_10 ?_
        refine g_iload_n X 0 dX4_nextInTurn_13 rfl rfl ?_
        refine g_aald1 X 2 0 cx2 i (by omega) (by omega) (ar2 (by omega)) dX4_nextInTurn_14 ?_
        refine g_astore_n X [(3, .ref (al 3 (i + 1))), (2, .int (nI i)), (1, .null), (0, .ref (al 0 0))] dX4_nextInTurn_15 rfl (by decide) rfl ?_
        refine g_aload_n X 0 dX4_nextInTurn_16 rfl rfl ?_
        refine g_get X 3 (i + 1) (cx3 ⟨by omega, by omega⟩) rfl 4 (by decide) hiX1 (by decide +kernel) rfl rfl dX4_nextInTurn_17 ?_
        refine g_if_ne X 41 dX4_nextInTurn_20 (by decide) (Iff.rfl) (fun c_2 => ?_) (fun c_2 => ?_)
        · refine g_iinc X 1 [(2, .int (nI (i + 1))), (3, .ref (al 3 (i + 1))), (1, .null), (0, .ref (al 0 0))] dX4_nextInTurn_41 rfl (nI_inc (by decide)) (by decide) rfl ?_
          refine g_goto X 4 dX4_nextInTurn_44 (by decide) ?_
          refine g_lv [0, 2, 3] rfl ?_
          have e9 : rN al (nxT u (i + 1)) = .null := by rw [nxT, if_neg (fun z => c_2 z.1)]; exact rN_0 hz
          have q9 := ih (i + 1) (by omega) (by omega)
          rw [e9] at q9
          exact q9
        · refine g_aload_nN X 2 dX4_nextInTurn_23 rfl rfl ?_
          refine g_ifnull_n X 39 dX4_nextInTurn_24 (by decide) ?_
          refine g_aload_n X 0 dX4_nextInTurn_39 rfl rfl ?_
          refine g_astore_n X [(1, .ref (al 3 (i + 1))), (3, .ref (al 3 (i + 1))), (2, .int (nI i)), (0, .ref (al 0 0))] dX4_nextInTurn_40 rfl (by decide) rfl ?_
          refine g_iinc X 2 [(2, .int (nI (i + 1))), (1, .ref (al 3 (i + 1))), (3, .ref (al 3 (i + 1))), (0, .ref (al 0 0))] dX4_nextInTurn_41 rfl (nI_inc (by decide)) (by decide) rfl ?_
          refine g_goto X 4 dX4_nextInTurn_44 (by decide) ?_
          refine g_lv [0, 1, 3] rfl ?_
          have e9 : rN al (nxT u (i + 1)) = .ref (al 3 (i + 1)) := by rw [nxT, if_pos ⟨c_2, Or.inl hz⟩]; exact rN_p (by omega)
          have q9 := ih (i + 1) (by omega) (by omega)
          rw [e9] at q9
          exact q9
    · rw [rN_p hz]
      refine g_iload_n X 0 dX4_nextInTurn_4 rfl rfl ?_
      refine g_iconst X (v := nI 4) dX4_nextInTurn_5 (by decide) ?_
      refine g_icmp_ge X 47 dX4_nextInTurn_6 (by decide) (nI_leI (by omega) (by omega)) (fun c_1 => ?_) (fun c_1 => ?_)
      · refine g_aload_n X 1 dX4_nextInTurn_47 rfl rfl ?_
        exact g_aret X rfl ⟨_, rfl⟩ (Or.inr ⟨_, rfl⟩) dX4_nextInTurn_48 ⟨by have e9 : i = 4 := (by omega); rw [← e9, rN_p hz], rfl, rfl⟩
      · refine g_aload_n X 2 dX4_nextInTurn_9 rfl rfl ?_
        refine g_get X 0 0 cx0 rfl 3 (by decide) hiX4 (by decide +kernel) rfl rfl dX4_nextInTurn_10 ?_
        refine g_iload_n X 0 dX4_nextInTurn_13 rfl rfl ?_
        refine g_aald1 X 2 0 cx2 i (by omega) (by omega) (ar2 (by omega)) dX4_nextInTurn_14 ?_
        refine g_astore_n X [(3, .ref (al 3 (i + 1))), (2, .int (nI i)), (1, .ref (al 3 (nxT u i))), (0, .ref (al 0 0))] dX4_nextInTurn_15 rfl (by decide) rfl ?_
        refine g_aload_n X 0 dX4_nextInTurn_16 rfl rfl ?_
        refine g_get X 3 (i + 1) (cx3 ⟨by omega, by omega⟩) rfl 4 (by decide) hiX1 (by decide +kernel) rfl rfl dX4_nextInTurn_17 ?_
        refine g_if_ne X 41 dX4_nextInTurn_20 (by decide) (Iff.rfl) (fun c_2 => ?_) (fun c_2 => ?_)
        · refine g_iinc X 1 [(2, .int (nI (i + 1))), (3, .ref (al 3 (i + 1))), (1, .ref (al 3 (nxT u i))), (0, .ref (al 0 0))] dX4_nextInTurn_41 rfl (nI_inc (by decide)) (by decide) rfl ?_
          refine g_goto X 4 dX4_nextInTurn_44 (by decide) ?_
          refine g_lv [0, 2, 3] rfl ?_
          have e9 : rN al (nxT u (i + 1)) = .ref (al 3 (nxT u i)) := by rw [nxT, if_neg (fun z => c_2 z.1)]; exact rN_p hz
          have q9 := ih (i + 1) (by omega) (by omega)
          rw [e9] at q9
          exact q9
        · refine g_aload_n X 2 dX4_nextInTurn_23 rfl rfl ?_
          refine g_ifnull_r X dX4_nextInTurn_24 ?_
          refine g_aload_n X 0 dX4_nextInTurn_27 rfl rfl ?_
          refine g_get X 3 (i + 1) (cx3 ⟨by omega, by omega⟩) rfl 3 (by decide) hiX1 (by decide +kernel) rfl rfl dX4_nextInTurn_28 ?_
          refine g_aload_n X 2 dX4_nextInTurn_31 rfl rfl ?_
          refine g_get X 3 (nxT u i) (cx3 ⟨by omega, by omega⟩) rfl 3 (by decide) hiX1 (by decide +kernel) rfl rfl dX4_nextInTurn_32 ?_
          refine g_lcmp X dX4_nextInTurn_35 ?_
          refine g_if_ge X 41 dX4_nextInTurn_36 (by decide) (lg_ge) (fun c_3 => ?_) (fun c_3 => ?_)
          · refine g_iinc X 1 [(2, .int (nI (i + 1))), (3, .ref (al 3 (i + 1))), (1, .ref (al 3 (nxT u i))), (0, .ref (al 0 0))] dX4_nextInTurn_41 rfl (nI_inc (by decide)) (by decide) rfl ?_
            refine g_goto X 4 dX4_nextInTurn_44 (by decide) ?_
            refine g_lv [0, 2, 3] rfl ?_
            have e9 : rN al (nxT u (i + 1)) = .ref (al 3 (nxT u i)) := by rw [nxT, if_neg (fun z => z.2.elim hz c_3)]; exact rN_p hz
            have q9 := ih (i + 1) (by omega) (by omega)
            rw [e9] at q9
            exact q9
          · refine g_aload_n X 0 dX4_nextInTurn_39 rfl rfl ?_
            refine g_astore_n X [(1, .ref (al 3 (i + 1))), (3, .ref (al 3 (i + 1))), (2, .int (nI i)), (0, .ref (al 0 0))] dX4_nextInTurn_40 rfl (by decide) rfl ?_
            refine g_iinc X 2 [(2, .int (nI (i + 1))), (1, .ref (al 3 (i + 1))), (3, .ref (al 3 (i + 1))), (0, .ref (al 0 0))] dX4_nextInTurn_41 rfl (nI_inc (by decide)) (by decide) rfl ?_
            refine g_goto X 4 dX4_nextInTurn_44 (by decide) ?_
            refine g_lv [0, 1, 3] rfl ?_
            have e9 : rN al (nxT u (i + 1)) = .ref (al 3 (i + 1)) := by rw [nxT, if_pos ⟨c_2, Or.inr (Decidable.of_not_not c_3)⟩]; exact rN_p (by omega)
            have q9 := ih (i + 1) (by omega) (by omega)
            rw [e9] at q9
            exact q9

set_option maxRecDepth 100000 in
set_option maxHeartbeats 4000000 in
/-- nextInTurn -/
theorem c_nextInTurn {l : Launch} {D : va_G} {ta : Nat → ClassId} {pl : Nat → Nat} {bs : Nat} {al : Ad} {Z : Wo} {u : St}   : GD l D ta pl bs yX4_nextInTurn wsX4_nextInTurn (rmF 0 0) [.ref (al 0 0)] al (mC Z ta pl al u) (some (rN al (nxT u 4))) (mC Z ta pl al u) := by
  refine GM.of (by decide) rfl (Nat.le_of_ble_eq_true rfl) ?_
  intro p e s m args below meth c X hnm
  refine g_lv (lv' := [(0, .ref (al 0 0))]) [0] rfl ?_
  refine g_null X dX4_nextInTurn_0 ?_
  refine g_astore_nN X [(1, .null), (0, .ref (al 0 0))] dX4_nextInTurn_1 rfl (by decide) rfl ?_
  refine g_iconst X (v := nI 0) dX4_nextInTurn_2 (by decide) ?_
  refine g_istore_n X [(2, .int (nI 0)), (1, .null), (0, .ref (al 0 0))] dX4_nextInTurn_3 rfl (by decide) rfl ?_
  refine g_lv [0, 1, 2] rfl ?_
  exact l_nextInTurn X 5 0 (Nat.zero_le _) (Nat.le_refl _)

set_option maxRecDepth 100000 in
set_option maxHeartbeats 4000000 in
/-- putFirstOn -/
theorem c_putFirstOn {l : Launch} {D : va_G} {ta : Nat → ClassId} {pl : Nat → Nat} {bs : Nat} {al : Ad} {Z : Wo} {u : St} (n : Nat) (h0 : 1 ≤ n ∧ n ≤ 4) (hI : Iv u) : GD l D ta pl bs yX4_putFirstOn wsX4_putFirstOn (rmF 2 43) [.ref (al 0 0), .ref (al 3 n)] al (mC Z ta pl al u) none (mC Z ta pl al (putF u n)) := by
  refine GM.of (by decide) rfl (Nat.le_of_ble_eq_true rfl) ?_
  intro p e s m args below meth c X hnm
  have hiX1 : ∀ w ∈ u_ws RX1 TX1 5, w ∈ wsX4_putFirstOn := by decide +kernel
  have hiX2 : ∀ w ∈ u_ws RX2 TX2 8, w ∈ wsX4_putFirstOn := by decide +kernel
  have hiX4 : ∀ w ∈ u_ws RX4 TX4 13, w ∈ wsX4_putFirstOn := by decide +kernel
  obtain ⟨⟨h1, h2, h7, hN, h30, -, -⟩, hI2, hI3, -, hI5, -⟩ := id hI
  obtain ⟨hr1, hr2, hr3, hr4, -⟩ := hI5 n h0.1 h0.2
  have hr9 : ∀ j, j < u 12 n → u (40 + n) j ≠ 0 ∧ u (40 + n) j ≤ u 30 0 := fun j hj => ⟨(hr3 j hj).1, by have := hr2 j; omega⟩
  have hr8 := hr2 0
  have hp9 := pos3_lt (n := n) (T := u 0 0) h0 h1 h2
  refine g_lv (lv' := [(0, .ref (al 0 0)), (1, .ref (al 3 n))]) [0, 1] rfl ?_
  refine g_aload_n X 1 dX4_putFirstOn_0 rfl rfl ?_
  by_cases hz : u 12 n = 0
  · skip
    refine g_callDV1 (n := 0) X 3 n [] (cx3 ⟨by omega, by omega⟩) rfl (c_first_0 n ⟨by omega, by omega⟩ hz) gX4_putFirstOn_X1_first rfl ⟨rfl, rfl⟩ (by decide +kernel) ⟨by decide, by decide⟩ rfl (Nat.le_of_ble_eq_true rfl) dX4_putFirstOn_1 ⟨Nat.zero_le _, Nat.zero_le _⟩ _ rfl ?_
    refine g_astore_nN X [(2, .null), (0, .ref (al 0 0)), (1, .ref (al 3 n))] dX4_putFirstOn_4 rfl (by decide) rfl ?_
    refine g_aload_n X 1 dX4_putFirstOn_5 rfl rfl ?_
    refine g_aload_n X 2 dX4_putFirstOn_6 rfl rfl ?_
    refine g_get X 3 n (cx3 ⟨by omega, by omega⟩) rfl 0 (by decide) hiX1 (by decide +kernel) rfl rfl dX4_putFirstOn_7 ?_
    have hq_1 : tA u ((n - 1) * u 0 0 / 4) < u 0 0 := tA_lt (by omega) (by omega)
    refine g_callDV1 (n := 1) X 0 0 [.int (nI ((n - 1) * u 0 0 / 4))] cx0 rfl (c_trayAt ((n - 1) * u 0 0 / 4) (by omega) (by omega) (by omega) (by omega)) gX4_putFirstOn_X4_trayAt rfl ⟨rfl, rfl⟩ (by decide +kernel) ⟨by decide, by decide⟩ rfl (Nat.le_of_ble_eq_true rfl) dX4_putFirstOn_10 ⟨Nat.zero_le _, Nat.zero_le _⟩ _ rfl ?_
    refine g_istore_n X [(3, .int (nI (tA u ((n - 1) * u 0 0 / 4)))), (2, .null), (0, .ref (al 0 0)), (1, .ref (al 3 n))] dX4_putFirstOn_13 rfl (by decide) rfl ?_
    refine g_aload_nN X 1 dX4_putFirstOn_14 rfl rfl ?_
    refine g_ifnull_n X 27 dX4_putFirstOn_15 (by decide) ?_
    exact g_vret X rfl dX4_putFirstOn_27 ⟨rfl, rfl, congrArg _ (by rw [putF, if_pos hz])⟩
  · skip
    have hr7 := (hr3 0 (by omega)).1
    refine g_callDV1 (n := 0) X 3 n [] (cx3 ⟨by omega, by omega⟩) rfl (c_first_1 n ⟨by omega, by omega⟩ (by omega) (by omega) (hr3 0 (by omega)).1) gX4_putFirstOn_X1_first rfl ⟨rfl, rfl⟩ (by decide +kernel) ⟨by decide, by decide⟩ rfl (Nat.le_of_ble_eq_true rfl) dX4_putFirstOn_1 ⟨Nat.zero_le _, Nat.zero_le _⟩ _ rfl ?_
    refine g_astore_n X [(2, .ref (al 9 (u (40 + n) 0))), (0, .ref (al 0 0)), (1, .ref (al 3 n))] dX4_putFirstOn_4 rfl (by decide) rfl ?_
    refine g_aload_n X 1 dX4_putFirstOn_5 rfl rfl ?_
    refine g_aload_n X 2 dX4_putFirstOn_6 rfl rfl ?_
    refine g_get X 3 n (cx3 ⟨by omega, by omega⟩) rfl 0 (by decide) hiX1 (by decide +kernel) rfl rfl dX4_putFirstOn_7 ?_
    have hq_2 : tA u ((n - 1) * u 0 0 / 4) < u 0 0 := tA_lt (by omega) (by omega)
    refine g_callDV1 (n := 1) X 0 0 [.int (nI ((n - 1) * u 0 0 / 4))] cx0 rfl (c_trayAt ((n - 1) * u 0 0 / 4) (by omega) (by omega) (by omega) (by omega)) gX4_putFirstOn_X4_trayAt rfl ⟨rfl, rfl⟩ (by decide +kernel) ⟨by decide, by decide⟩ rfl (Nat.le_of_ble_eq_true rfl) dX4_putFirstOn_10 ⟨Nat.zero_le _, Nat.zero_le _⟩ _ rfl ?_
    refine g_istore_n X [(3, .int (nI (tA u ((n - 1) * u 0 0 / 4)))), (2, .ref (al 9 (u (40 + n) 0))), (0, .ref (al 0 0)), (1, .ref (al 3 n))] dX4_putFirstOn_13 rfl (by decide) rfl ?_
    refine g_aload_n X 1 dX4_putFirstOn_14 rfl rfl ?_
    refine g_ifnull_r X dX4_putFirstOn_15 ?_
    refine g_aload_n X 2 dX4_putFirstOn_18 rfl rfl ?_
    refine g_aload_n X 1 dX4_putFirstOn_19 rfl rfl ?_
    refine g_iload_n X 0 dX4_putFirstOn_20 rfl rfl ?_
    refine g_callDV1 (n := 2) X 0 0 [.ref (al 9 (u (40 + n) 0)), .int (nI (tA u ((n - 1) * u 0 0 / 4)))] cx0 rfl (c_isFreeFor (u (40 + n) 0) (tA u ((n - 1) * u 0 0 / 4)) (by omega) (by omega) ⟨by omega, by omega⟩ (by omega)) gX4_putFirstOn_X4_isFreeFor rfl ⟨rfl, rfl⟩ (by decide +kernel) ⟨by decide, by decide⟩ rfl (Nat.le_of_ble_eq_true rfl) dX4_putFirstOn_21 ⟨Nat.zero_le _, Nat.zero_le _⟩ _ rfl ?_
    refine g_if_ne X 28 dX4_putFirstOn_24 (by decide) (bN_eq0) (fun c_3 => ?_) (fun c_3 => ?_)
    · have c_3 := Decidable.of_not_not c_3
      refine g_aload_n X 3 dX4_putFirstOn_28 rfl rfl ?_
      refine g_callDV0 (n := 0) X 3 n [] (cx3 ⟨by omega, by omega⟩) rfl (c_removeFirst n ⟨by omega, by omega⟩ (by omega) (by omega) (by assumption)) gX4_putFirstOn_X1_removeFirst rfl ⟨rfl, rfl⟩ (by decide +kernel) ⟨by decide, by decide⟩ rfl (Nat.le_of_ble_eq_true rfl) dX4_putFirstOn_29 ⟨Nat.zero_le _, Nat.zero_le _⟩ _ rfl ?_
      generalize hu_4 : remF u n = u_4
      have k0u_4 : u_4 0 0 = u 0 0 := by rw [← hu_4]; exact remF_k (by omega) (by omega)
      have k30u_4 : u_4 30 0 = u 30 0 := by rw [← hu_4]; exact remF_k (by omega) (by omega)
      refine g_aload_n X 3 dX4_putFirstOn_32 rfl rfl ?_
      refine g_dup X dX4_putFirstOn_33 rfl ?_
      refine g_get X 3 n (cx3 ⟨by omega, by omega⟩) rfl 3 (by decide) hiX1 (by decide +kernel) rfl rfl dX4_putFirstOn_34 ?_
      refine g_lconst X (v := lN 1) dX4_putFirstOn_37 (by decide) ?_
      refine g_ladd X dX4_putFirstOn_38 (lN_add _ _) ?_
      refine g_put X tyX1 tyX1_ok nmX1 3 n (cx3 ⟨by omega, by omega⟩) rfl 3 (by decide) hiX1 (by decide +kernel) rfl rfl (ty := .long) (by decide +kernel) rfl rfl (Nat.le_of_ble_eq_true rfl) _ (up_putOnCount ⟨by omega, by omega⟩) dX4_putFirstOn_39 ?_
      generalize hu_5 : st u_4 13 n ((u_4 13 n) + 1) = u_5
      have k0u_5 : u_5 0 0 = u_4 0 0 := by rw [← hu_5]; first | rfl | exact st_nf (by omega)
      have k30u_5 : u_5 30 0 = u_4 30 0 := by rw [← hu_5]; first | rfl | exact st_nf (by omega)
      refine g_aload_n X 1 dX4_putFirstOn_42 rfl rfl ?_
      refine g_iload_n X 0 dX4_putFirstOn_43 rfl rfl ?_
      refine g_put X tyX2 tyX2_ok nmX2 9 (u (40 + n) 0) (cx9 ⟨by omega, by omega⟩) rfl 4 (by decide) hiX2 (by decide +kernel) rfl rfl (ty := .int) (by decide +kernel) rfl rfl (Nat.le_of_ble_eq_true rfl) _ (up_ownTray ⟨by omega, by omega⟩) dX4_putFirstOn_44 ?_
      generalize hu_6 : st u_5 24 (u (40 + n) 0) (tA u ((n - 1) * u 0 0 / 4)) = u_6
      have k0u_6 : u_6 0 0 = u_5 0 0 := by rw [← hu_6]; first | rfl | exact st_nf (by omega)
      have k30u_6 : u_6 30 0 = u_5 30 0 := by rw [← hu_6]; first | rfl | exact st_nf (by omega)
      refine g_aload_n X 1 dX4_putFirstOn_47 rfl rfl ?_
      refine g_place X 1 (by decide) "CARRIED" rfl (by decide +kernel) dX4_putFirstOn_48 ?_
      refine g_put X tyX2 tyX2_ok nmX2 9 (u (40 + n) 0) (cx9 ⟨by omega, by omega⟩) rfl 3 (by decide) hiX2 (by decide +kernel) rfl rfl (ty := .object "LoopSorter$Place") (by decide +kernel) rfl rfl (Nat.le_of_ble_eq_true rfl) _ (up_place ⟨by omega, by omega⟩) dX4_putFirstOn_51 ?_
      generalize hu_7 : st u_6 23 (u (40 + n) 0) 1 = u_7
      have k0u_7 : u_7 0 0 = u_6 0 0 := by rw [← hu_7]; first | rfl | exact st_nf (by omega)
      have k30u_7 : u_7 30 0 = u_6 30 0 := by rw [← hu_7]; first | rfl | exact st_nf (by omega)
      refine g_aload_n X 2 dX4_putFirstOn_54 rfl rfl ?_
      refine g_aload_n X 1 dX4_putFirstOn_55 rfl rfl ?_
      refine g_aload_n X 1 dX4_putFirstOn_56 rfl rfl ?_
      have k24 : u_7 24 (u (40 + n) 0) = tA u ((n - 1) * u 0 0 / 4) := by rw [← hu_7, st_nf (by decide), ← hu_6, st_self]
      refine g_callDV0 (n := 2) X 0 0 [.ref (al 9 (u (40 + n) 0)), .ref (al 9 (u (40 + n) 0))] cx0 rfl (c_setTr_1 (u (40 + n) 0) (by omega) (by omega) ⟨by omega, by omega⟩ (by omega)) gX4_putFirstOn_X4_setTraysOf rfl ⟨rfl, rfl⟩ (by decide +kernel) ⟨by decide, by decide⟩ rfl (Nat.le_of_ble_eq_true rfl) dX4_putFirstOn_57 ⟨Nat.zero_le _, Nat.zero_le _⟩ _ rfl ?_
      generalize hu_8 : setTr u_7 (u (40 + n) 0) (u (40 + n) 0) = u_8
      have k0u_8 : u_8 0 0 = u_7 0 0 := by rw [← hu_8]; exact setTr_ne (by decide)
      have k30u_8 : u_8 30 0 = u_7 30 0 := by rw [← hu_8]; exact setTr_ne (by decide)
      refine g_aload_n X 2 dX4_putFirstOn_60 rfl rfl ?_
      refine g_dup X dX4_putFirstOn_61 rfl ?_
      refine g_get X 0 0 cx0 rfl 9 (by decide) hiX4 (by decide +kernel) rfl rfl dX4_putFirstOn_62 ?_
      refine g_iconst X (v := nI 1) dX4_putFirstOn_65 (by decide) ?_
      refine g_iadd X dX4_putFirstOn_66 (nI_add _ _) ?_
      refine g_put X tyX4 tyX4_ok nmX4 0 0 cx0 rfl 9 (by decide) hiX4 (by decide +kernel) rfl rfl (ty := .int) (by decide +kernel) rfl rfl (Nat.le_of_ble_eq_true rfl) _ up_carriedCount dX4_putFirstOn_67 ?_
      generalize hu_9 : st u_8 4 0 ((u_8 4 0) + 1) = u_9
      have k0u_9 : u_9 0 0 = u_8 0 0 := by rw [← hu_9]; first | rfl | exact st_nf (by omega)
      have k30u_9 : u_9 30 0 = u_8 30 0 := by rw [← hu_9]; first | rfl | exact st_nf (by omega)
      exact g_vret X rfl dX4_putFirstOn_70 ⟨rfl, rfl, congrArg _ (by subst hu_4; subst hu_5; subst hu_6; subst hu_7; subst hu_8; subst hu_9; rw [putF, if_neg hz, if_pos c_3])⟩
    · exact g_vret X rfl dX4_putFirstOn_27 ⟨rfl, rfl, congrArg _ (by rw [putF, if_neg hz, if_neg c_3])⟩

set_option maxRecDepth 100000 in
set_option maxHeartbeats 4000000 in
/-- the loop of takeTurns at 25:  -/
theorem l_takeTurns2 {l : Launch} {D : va_G} {ta : Nat → ClassId} {pl : Nat → Nat} {bs : Nat} {al : Ad} {Z : Wo} {p : Program} {e : Env} {s : State} {m : MethodId} {args : Array Value} {below : List Frame} {meth : Method} {c : Code} {u : St} (X : Cx D ta pl bs 3 p s m args meth c cX4_takeTurns wsX4_takeTurns RX4 none)  (h0 : Iv u) : ∀ (n9 i : Nat), i ≤ 4 → 4 + 1 ≤ i + n9 → WW D bs 3 p l e (rmF 3 66) s m args below meth c (QQ D bs below args s 0 0 (fun r al' C' => r = none ∧ al' = al ∧ C' = mC Z ta pl al (turnN 4 u))) al (mC Z ta pl al (turnN i u)) 0 0 25 [(1, .int (nI i)), (0, .ref (al 0 0))] [] := by
  have hiX1 : ∀ w ∈ u_ws RX1 TX1 5, w ∈ wsX4_takeTurns := by decide +kernel
  intro n9
  induction n9 with
  | zero => intro i h8 h9; exact absurd h9 (by omega)
  | succ n9 ih =>
    intro i h8 h9
    have hI := Iv_turnN h0 i
    generalize hw : turnN i u = w at *
    have hn9 := nxT_le (u := w) 4
    refine g_iload_n X 0 dX4_takeTurns_25 rfl rfl ?_
    refine g_iconst X (v := nI 4) dX4_takeTurns_26 (by decide) ?_
    refine g_icmp_ge X 55 dX4_takeTurns_27 (by decide) (nI_leI (by omega) (by omega)) (fun c_1 => ?_) (fun c_1 => ?_)
    · exact g_vret X rfl dX4_takeTurns_55 ⟨rfl, rfl, by subst hw; have e9 : i = 4 := (by omega); rw [e9]⟩
    · refine g_aload_n X 1 dX4_takeTurns_30 rfl rfl ?_
      by_cases hz : nxT w 4 = 0
      · skip
        refine g_callDV1 (n := 0) X 0 0 [] cx0 rfl (by have q9 := c_nextInTurn (l := l) (D := D) (ta := ta) (pl := pl) (bs := bs) (al := al) (Z := Z) (u := w); rw [rN_0 hz] at q9; exact q9) gX4_takeTurns_X4_nextInTurn rfl ⟨rfl, rfl⟩ (by decide +kernel) ⟨by decide, by decide⟩ rfl (Nat.le_of_ble_eq_true rfl) dX4_takeTurns_31 ⟨Nat.zero_le _, Nat.zero_le _⟩ _ rfl ?_
        refine g_astore_nN X [(2, .null), (1, .int (nI i)), (0, .ref (al 0 0))] dX4_takeTurns_34 rfl (by decide) rfl ?_
        refine g_aload_nN X 0 dX4_takeTurns_35 rfl rfl ?_
        refine g_ifnull_n X 49 dX4_takeTurns_36 (by decide) ?_
        refine g_iinc X 1 [(1, .int (nI (i + 1))), (2, .null), (0, .ref (al 0 0))] dX4_takeTurns_49 rfl (nI_inc (by decide)) (by decide) rfl ?_
        refine g_goto X 25 dX4_takeTurns_52 (by decide) ?_
        refine g_lv [0, 2] rfl ?_
        have e9 : turnN (i + 1) u = w := by show turnOne (turnN i u) = _; rw [hw, turnOne, if_pos hz]
        have q9 := ih (i + 1) (by omega) (by omega)
        rw [e9] at q9
        exact q9
      · skip
        refine g_callDV1 (n := 0) X 0 0 [] cx0 rfl (by have q9 := c_nextInTurn (l := l) (D := D) (ta := ta) (pl := pl) (bs := bs) (al := al) (Z := Z) (u := w); rw [rN_p hz] at q9; exact q9) gX4_takeTurns_X4_nextInTurn rfl ⟨rfl, rfl⟩ (by decide +kernel) ⟨by decide, by decide⟩ rfl (Nat.le_of_ble_eq_true rfl) dX4_takeTurns_31 ⟨Nat.zero_le _, Nat.zero_le _⟩ _ rfl ?_
        refine g_astore_n X [(2, .ref (al 3 (nxT w 4))), (1, .int (nI i)), (0, .ref (al 0 0))] dX4_takeTurns_34 rfl (by decide) rfl ?_
        refine g_aload_n X 0 dX4_takeTurns_35 rfl rfl ?_
        refine g_ifnull_r X dX4_takeTurns_36 ?_
        refine g_aload_n X 0 dX4_takeTurns_39 rfl rfl ?_
        refine g_iconst X (v := nI 1) dX4_takeTurns_40 (by decide) ?_
        refine g_put X tyX1 tyX1_ok nmX1 3 (nxT w 4) (cx3 ⟨by omega, by omega⟩) rfl 4 (by decide) hiX1 (by decide +kernel) rfl rfl (ty := .boolean) (by decide +kernel) (by decide) (by decide) (Nat.le_of_ble_eq_true rfl) _ (up_hadTurn ⟨by omega, by omega⟩) dX4_takeTurns_41 ?_
        generalize hu_2 : st w 14 (nxT w 4) 1 = u_2
        refine g_aload_n X 2 dX4_takeTurns_44 rfl rfl ?_
        refine g_aload_n X 0 dX4_takeTurns_45 rfl rfl ?_
        refine g_callDV0 (n := 1) X 0 0 [.ref (al 3 (nxT w 4))] cx0 rfl (c_putFirstOn (nxT w 4) ⟨by omega, by omega⟩ (by rw [← hu_2]; exact Iv_had hI)) gX4_takeTurns_X4_putFirstOn rfl ⟨rfl, rfl⟩ (by decide +kernel) ⟨by decide, by decide⟩ rfl (Nat.le_of_ble_eq_true rfl) dX4_takeTurns_46 ⟨Nat.zero_le _, Nat.zero_le _⟩ _ rfl ?_
        generalize hu_3 : putF u_2 (nxT w 4) = u_3
        refine g_iinc X 1 [(1, .int (nI (i + 1))), (2, .ref (al 3 (nxT w 4))), (0, .ref (al 0 0))] dX4_takeTurns_49 rfl (nI_inc (by decide)) (by decide) rfl ?_
        refine g_goto X 25 dX4_takeTurns_52 (by decide) ?_
        refine g_lv [0, 2] rfl ?_
        have e9 : turnN (i + 1) u = u_3 := by show turnOne (turnN i u) = _; rw [hw, turnOne, if_neg hz, hu_2]; exact hu_3
        have q9 := ih (i + 1) (by omega) (by omega)
        rw [e9] at q9
        exact q9

set_option maxRecDepth 100000 in
set_option maxHeartbeats 4000000 in
/-- the loop of takeTurns at 2:  -/
theorem l_takeTurns1 {l : Launch} {D : va_G} {ta : Nat → ClassId} {pl : Nat → Nat} {bs : Nat} {al : Ad} {Z : Wo} {p : Program} {e : Env} {s : State} {m : MethodId} {args : Array Value} {below : List Frame} {meth : Method} {c : Code} {u : St} (X : Cx D ta pl bs 3 p s m args meth c cX4_takeTurns wsX4_takeTurns RX4 none)  (h0 : Iv u) : ∀ (n9 i : Nat), i ≤ 4 → 4 + 1 ≤ i + n9 → WW D bs 3 p l e (rmF 3 66) s m args below meth c (QQ D bs below args s 0 0 (fun r al' C' => r = none ∧ al' = al ∧ C' = mC Z ta pl al (takeT u))) al (mC Z ta pl al (clrN i u)) 0 0 2 [(1, .int (nI i)), (0, .ref (al 0 0))] [] := by
  have hiX1 : ∀ w ∈ u_ws RX1 TX1 5, w ∈ wsX4_takeTurns := by decide +kernel
  have hiX4 : ∀ w ∈ u_ws RX4 TX4 13, w ∈ wsX4_takeTurns := by decide +kernel
  intro n9
  induction n9 with
  | zero => intro i h8 h9; exact absurd h9 (by omega)
  | succ n9 ih =>
    intro i h8 h9
    generalize hw : clrN i u = w at *
    refine g_iload_n X 0 dX4_takeTurns_2 rfl rfl ?_
    refine g_iconst X (v := nI 4) dX4_takeTurns_3 (by decide) ?_
    refine g_icmp_ge X 23 dX4_takeTurns_4 (by decide) (nI_leI (by omega) (by omega)) (fun c_1 => ?_) (fun c_1 => ?_)
    · refine g_iconst X (v := nI 0) dX4_takeTurns_23 (by decide) ?_
      refine g_istore_n X [(1, .int (nI 0)), (0, .ref (al 0 0))] dX4_takeTurns_24 rfl (by decide) rfl ?_
      refine g_lv [0, 1] rfl ?_
      have e9 : i = 4 := by omega
      subst e9
      subst hw
      exact l_takeTurns2 X (Iv_clrN h0 4) 5 0 (Nat.zero_le _) (Nat.le_refl _)
    · refine g_aload_n X 1 dX4_takeTurns_7 rfl rfl ?_
      refine g_get X 0 0 cx0 rfl 3 (by decide) hiX4 (by decide +kernel) rfl rfl dX4_takeTurns_8 ?_
      refine g_iload_n X 0 dX4_takeTurns_11 rfl rfl ?_
      refine g_aald1 X 2 0 cx2 i (by omega) (by omega) (ar2 (by omega)) dX4_takeTurns_12 ?_
      refine g_iconst X (v := nI 0) dX4_takeTurns_13 (by decide) ?_
      refine g_put X tyX1 tyX1_ok nmX1 3 (i + 1) (cx3 ⟨by omega, by omega⟩) rfl 4 (by decide) hiX1 (by decide +kernel) rfl rfl (ty := .boolean) (by decide +kernel) (by decide) (by decide) (Nat.le_of_ble_eq_true rfl) _ (up_hadTurn ⟨by omega, by omega⟩) dX4_takeTurns_14 ?_
      generalize hu_2 : st w 14 (i + 1) 0 = u_2
      refine g_iinc X 0 [(1, .int (nI (i + 1))), (0, .ref (al 0 0))] dX4_takeTurns_17 rfl (nI_inc (by decide)) (by decide) rfl ?_
      refine g_goto X 2 dX4_takeTurns_20 (by decide) ?_
      refine g_lv [0, 1] rfl ?_
      subst hu_2
      subst hw
      exact ih (i + 1) (by omega) (by omega)

set_option maxRecDepth 100000 in
set_option maxHeartbeats 4000000 in
/-- takeTurns -/
theorem c_takeTurns {l : Launch} {D : va_G} {ta : Nat → ClassId} {pl : Nat → Nat} {bs : Nat} {al : Ad} {Z : Wo} {u : St}  (h0 : Iv u) : GD l D ta pl bs yX4_takeTurns wsX4_takeTurns (rmF 3 66) [.ref (al 0 0)] al (mC Z ta pl al u) none (mC Z ta pl al (takeT u)) := by
  refine GM.of (by decide) rfl (Nat.le_of_ble_eq_true rfl) ?_
  intro p e s m args below meth c X hnm
  refine g_lv (lv' := [(0, .ref (al 0 0))]) [0] rfl ?_
  refine g_iconst X (v := nI 0) dX4_takeTurns_0 (by decide) ?_
  refine g_istore_n X [(1, .int (nI 0)), (0, .ref (al 0 0))] dX4_takeTurns_1 rfl (by decide) rfl ?_
  refine g_lv [0, 1] rfl ?_
  exact l_takeTurns1 X h0 5 0 (Nat.zero_le _) (Nat.le_refl _)

set_option maxRecDepth 100000 in
set_option maxHeartbeats 4000000 in
/-- the loop of runOneStep at 2:  -/
theorem l_runOneStep {l : Launch} {D : va_G} {ta : Nat → ClassId} {pl : Nat → Nat} {bs : Nat} {al : Ad} {Z : Wo} {p : Program} {e : Env} {s : State} {m : MethodId} {args : Array Value} {below : List Frame} {meth : Method} {c : Code} {u : St} (X : Cx D ta pl bs 2 p s m args meth c cX4_runOneStep wsX4_runOneStep RX4 none)  (h0 : Iv u) : ∀ (n9 i : Nat), i ≤ u 5 0 → u 5 0 + 1 ≤ i + n9 → WW D bs 2 p l e (rmF 5 112) s m args below meth c (QQ D bs below args s 0 0 (fun r al' C' => r = none ∧ al' = al ∧ C' = mC Z ta pl al (runOne u))) al (mC Z ta pl al (moveN i u)) 0 0 2 [(1, .int (nI i)), (0, .ref (al 0 0))] [] := by
  have hiX4 : ∀ w ∈ u_ws RX4 TX4 13, w ∈ wsX4_runOneStep := by decide +kernel
  intro n9
  induction n9 with
  | zero => intro i h8 h9; exact absurd h9 (by omega)
  | succ n9 ih =>
    intro i h8 h9
    have hI := Iv_moveN h0 i
    have k5 : moveN i u 5 0 = u 5 0 := moveN_k (by omega)
    generalize hw : moveN i u = w at *
    obtain ⟨⟨h1, h2, h7, hN, h30, h51, h52⟩, -⟩ := id hI
    refine g_iload_n X 0 dX4_runOneStep_2 rfl rfl ?_
    refine g_aload_n X 1 dX4_runOneStep_3 rfl rfl ?_
    refine g_get X 0 0 cx0 rfl 10 (by decide) hiX4 (by decide +kernel) rfl rfl dX4_runOneStep_4 ?_
    refine g_icmp_ge X 54 dX4_runOneStep_7 (by decide) (nI_leI (by omega) (by omega)) (fun c_1 => ?_) (fun c_1 => ?_)
    · refine g_aload_n X 1 dX4_runOneStep_54 rfl rfl ?_
      refine g_dup X dX4_runOneStep_55 rfl ?_
      refine g_get X 0 0 cx0 rfl 11 (by decide) hiX4 (by decide +kernel) rfl rfl dX4_runOneStep_56 ?_
      refine g_iconst X (v := nI 1) dX4_runOneStep_59 (by decide) ?_
      refine g_iadd X dX4_runOneStep_60 (nI_add _ _) ?_
      refine g_put X tyX4 tyX4_ok nmX4 0 0 cx0 rfl 11 (by decide) hiX4 (by decide +kernel) rfl rfl (ty := .int) (by decide +kernel) rfl rfl (Nat.le_of_ble_eq_true rfl) _ up_time dX4_runOneStep_61 ?_
      generalize hu_2 : st w 6 0 ((w 6 0) + 1) = u_2
      refine g_aload_n X 1 dX4_runOneStep_64 rfl rfl ?_
      refine g_callDV0 (n := 0) X 0 0 [] cx0 rfl (c_takeTurns (by rw [← hu_2]; exact Iv_time hI)) gX4_runOneStep_X4_takeTurns rfl ⟨rfl, rfl⟩ (by decide +kernel) ⟨by decide, by decide⟩ rfl (Nat.le_of_ble_eq_true rfl) dX4_runOneStep_65 ⟨Nat.zero_le _, Nat.zero_le _⟩ _ rfl ?_
      generalize hu_3 : takeT u_2 = u_3
      exact g_vret X rfl dX4_runOneStep_68 ⟨rfl, rfl, congrArg _ (by subst hu_2; subst hu_3; subst hw; have e9 : i = u 5 0 := (by omega); rw [e9]; rfl)⟩
    · refine g_aload_n X 1 dX4_runOneStep_10 rfl rfl ?_
      refine g_aload_n X 1 dX4_runOneStep_11 rfl rfl ?_
      refine g_get X 0 0 cx0 rfl 12 (by decide) hiX4 (by decide +kernel) rfl rfl dX4_runOneStep_12 ?_
      refine g_iconst X (v := nI 1) dX4_runOneStep_15 (by decide) ?_
      refine g_iadd X dX4_runOneStep_16 (nI_add _ _) ?_
      refine g_aload_n X 1 dX4_runOneStep_17 rfl rfl ?_
      refine g_get X 0 0 cx0 rfl 0 (by decide) hiX4 (by decide +kernel) rfl rfl dX4_runOneStep_18 ?_
      refine g_icmp_ge X 33 dX4_runOneStep_21 (by decide) (nI_leI (by omega) (by omega)) (fun c_4 => ?_) (fun c_4 => ?_)
      · refine g_iconst X (v := nI 0) dX4_runOneStep_33 (by decide) ?_
        refine g_put X tyX4 tyX4_ok nmX4 0 0 cx0 rfl 12 (by decide) hiX4 (by decide +kernel) rfl rfl (ty := .int) (by decide +kernel) rfl rfl (Nat.le_of_ble_eq_true rfl) _ up_shift dX4_runOneStep_34 ?_
        generalize hu_5 : st w 7 0 0 = u_5
        have es : shf w = u_5 := by rw [shf, if_neg (by omega)]; exact hu_5
        have hs9 : Iv u_5 := by rw [← es]; exact Iv_shift hI
        have h49 := hs9.le4
        refine g_aload_n X 1 dX4_runOneStep_37 rfl rfl ?_
        refine g_get X 0 0 cx0 rfl 9 (by decide) hiX4 (by decide +kernel) rfl rfl dX4_runOneStep_38 ?_
        refine g_if_le X 48 dX4_runOneStep_41 (by decide) (n0_le (by omega)) (fun c_6 => ?_) (fun c_6 => ?_)
        · refine g_iinc X 0 [(1, .int (nI (i + 1))), (0, .ref (al 0 0))] dX4_runOneStep_48 rfl (nI_inc (by decide)) (by decide) rfl ?_
          refine g_goto X 2 dX4_runOneStep_51 (by decide) ?_
          refine g_lv [0, 1] rfl ?_
          have e9 : moveN (i + 1) u = u_5 := by show moveOne (moveN i u) = _; rw [hw, moveOne, es, if_neg (by omega)]
          have q9 := ih (i + 1) (by omega) (by omega)
          rw [e9] at q9
          exact q9
        · refine g_aload_n X 1 dX4_runOneStep_44 rfl rfl ?_
          refine g_callDV0 (n := 0) X 0 0 [] cx0 rfl (c_passChutes (by assumption)) gX4_runOneStep_X4_passChutes rfl ⟨rfl, rfl⟩ (by decide +kernel) ⟨by decide, by decide⟩ rfl (Nat.le_of_ble_eq_true rfl) dX4_runOneStep_45 ⟨Nat.zero_le _, Nat.zero_le _⟩ _ rfl ?_
          generalize hu_7 : passN 16 u_5 = u_7
          refine g_iinc X 0 [(1, .int (nI (i + 1))), (0, .ref (al 0 0))] dX4_runOneStep_48 rfl (nI_inc (by decide)) (by decide) rfl ?_
          refine g_goto X 2 dX4_runOneStep_51 (by decide) ?_
          refine g_lv [0, 1] rfl ?_
          have e9 : moveN (i + 1) u = u_7 := by show moveOne (moveN i u) = _; rw [hw, moveOne, es, if_pos (by omega)]; exact hu_7
          have q9 := ih (i + 1) (by omega) (by omega)
          rw [e9] at q9
          exact q9
      · refine g_aload_n X 1 dX4_runOneStep_24 rfl rfl ?_
        refine g_get X 0 0 cx0 rfl 12 (by decide) hiX4 (by decide +kernel) rfl rfl dX4_runOneStep_25 ?_
        refine g_iconst X (v := nI 1) dX4_runOneStep_28 (by decide) ?_
        refine g_iadd X dX4_runOneStep_29 (nI_add _ _) ?_
        refine g_goto X 34 dX4_runOneStep_30 (by decide) ?_
        refine g_put X tyX4 tyX4_ok nmX4 0 0 cx0 rfl 12 (by decide) hiX4 (by decide +kernel) rfl rfl (ty := .int) (by decide +kernel) rfl rfl (Nat.le_of_ble_eq_true rfl) _ up_shift dX4_runOneStep_34 ?_
        generalize hu_8 : st w 7 0 ((w 7 0) + 1) = u_8
        have es : shf w = u_8 := by rw [shf, if_pos (by omega)]; exact hu_8
        have hs9 : Iv u_8 := by rw [← es]; exact Iv_shift hI
        have h49 := hs9.le4
        refine g_aload_n X 1 dX4_runOneStep_37 rfl rfl ?_
        refine g_get X 0 0 cx0 rfl 9 (by decide) hiX4 (by decide +kernel) rfl rfl dX4_runOneStep_38 ?_
        refine g_if_le X 48 dX4_runOneStep_41 (by decide) (n0_le (by omega)) (fun c_9 => ?_) (fun c_9 => ?_)
        · refine g_iinc X 0 [(1, .int (nI (i + 1))), (0, .ref (al 0 0))] dX4_runOneStep_48 rfl (nI_inc (by decide)) (by decide) rfl ?_
          refine g_goto X 2 dX4_runOneStep_51 (by decide) ?_
          refine g_lv [0, 1] rfl ?_
          have e9 : moveN (i + 1) u = u_8 := by show moveOne (moveN i u) = _; rw [hw, moveOne, es, if_neg (by omega)]
          have q9 := ih (i + 1) (by omega) (by omega)
          rw [e9] at q9
          exact q9
        · refine g_aload_n X 1 dX4_runOneStep_44 rfl rfl ?_
          refine g_callDV0 (n := 0) X 0 0 [] cx0 rfl (c_passChutes (by assumption)) gX4_runOneStep_X4_passChutes rfl ⟨rfl, rfl⟩ (by decide +kernel) ⟨by decide, by decide⟩ rfl (Nat.le_of_ble_eq_true rfl) dX4_runOneStep_45 ⟨Nat.zero_le _, Nat.zero_le _⟩ _ rfl ?_
          generalize hu_10 : passN 16 u_8 = u_10
          refine g_iinc X 0 [(1, .int (nI (i + 1))), (0, .ref (al 0 0))] dX4_runOneStep_48 rfl (nI_inc (by decide)) (by decide) rfl ?_
          refine g_goto X 2 dX4_runOneStep_51 (by decide) ?_
          refine g_lv [0, 1] rfl ?_
          have e9 : moveN (i + 1) u = u_10 := by show moveOne (moveN i u) = _; rw [hw, moveOne, es, if_pos (by omega)]; exact hu_10
          have q9 := ih (i + 1) (by omega) (by omega)
          rw [e9] at q9
          exact q9

set_option maxRecDepth 100000 in
set_option maxHeartbeats 4000000 in
/-- runOneStep -/
theorem c_runOneStep {l : Launch} {D : va_G} {ta : Nat → ClassId} {pl : Nat → Nat} {bs : Nat} {al : Ad} {Z : Wo} {u : St}  (h0 : Iv u) : GD l D ta pl bs yX4_runOneStep wsX4_runOneStep (rmF 5 112) [.ref (al 0 0)] al (mC Z ta pl al u) none (mC Z ta pl al (runOne u)) := by
  refine GM.of (by decide) rfl (Nat.le_of_ble_eq_true rfl) ?_
  intro p e s m args below meth c X hnm
  refine g_lv (lv' := [(0, .ref (al 0 0))]) [0] rfl ?_
  refine g_iconst X (v := nI 0) dX4_runOneStep_0 (by decide) ?_
  refine g_istore_n X [(1, .int (nI 0)), (0, .ref (al 0 0))] dX4_runOneStep_1 rfl (by decide) rfl ?_
  refine g_lv [0, 1] rfl ?_
  exact l_runOneStep X h0 (u 5 0 + 1) 0 (Nat.zero_le _) (by omega)

set_option maxRecDepth 100000 in
set_option maxHeartbeats 4000000 in
/-- the loop of step at 21:  -/
theorem l_step {l : Launch} {D : va_G} {ta : Nat → ClassId} {pl : Nat → Nat} {bs : Nat} {al : Ad} {Z : Wo} {p : Program} {e : Env} {s : State} {m : MethodId} {args : Array Value} {below : List Frame} {meth : Method} {c : Code} {u : St} (X : Cx D ta pl bs 4 p s m args meth c cX4_step wsX4_step RX4 (some .int)) (n : Nat) (h0 : Iv u) (hn : n ≤ 1000) : ∀ (n9 i : Nat), i ≤ n → n + 1 ≤ i + n9 → WW D bs 4 p l e (rmF 6 133) s m args below meth c (QQ D bs below args s 0 0 (fun r al' C' => r = some (.int (nI (runN n u 3 0) - nI (u 3 0))) ∧ al' = al ∧ C' = mC Z ta pl al (runN n u))) al (mC Z ta pl al (runN i u)) 0 0 21 [(3, .int (nI i)), (2, .int (nI (u 3 0))), (1, .int (nI n)), (0, .ref (al 0 0))] [] := by
  have hiX4 : ∀ w ∈ u_ws RX4 TX4 13, w ∈ wsX4_step := by decide +kernel
  intro n9
  induction n9 with
  | zero => intro i h8 h9; exact absurd h9 (by omega)
  | succ n9 ih =>
    intro i h8 h9
    have hI := Iv_runN h0 i
    generalize hw : runN i u = w at *
    refine g_iload_n X 0 dX4_step_21 rfl rfl ?_
    refine g_iload_n X 2 dX4_step_22 rfl rfl ?_
    refine g_icmp_ge X 36 dX4_step_23 (by decide) (nI_leI (by omega) (by omega)) (fun c_1 => ?_) (fun c_1 => ?_)
    · refine g_aload_n X 3 dX4_step_36 rfl rfl ?_
      refine g_get X 0 0 cx0 rfl 8 (by decide) hiX4 (by decide +kernel) rfl rfl dX4_step_37 ?_
      refine g_iload_n X 1 dX4_step_40 rfl rfl ?_
      refine g_isub X dX4_step_41 rfl ?_
      exact g_iret X rfl dX4_step_42 ⟨by subst hw; have e9 : i = n := (by omega); rw [e9], rfl, by subst hw; have e9 : i = n := (by omega); rw [e9]⟩
    · refine g_aload_n X 3 dX4_step_26 rfl rfl ?_
      refine g_callDV0 (n := 0) X 0 0 [] cx0 rfl (c_runOneStep hI) gX4_step_X4_runOneStep rfl ⟨rfl, rfl⟩ (by decide +kernel) ⟨by decide, by decide⟩ rfl (Nat.le_of_ble_eq_true rfl) dX4_step_27 ⟨Nat.zero_le _, Nat.zero_le _⟩ _ rfl ?_
      generalize hu_2 : runOne w = u_2
      refine g_iinc X 0 [(3, .int (nI (i + 1))), (2, .int (nI (u 3 0))), (1, .int (nI n)), (0, .ref (al 0 0))] dX4_step_30 rfl (nI_inc (by decide)) (by decide) rfl ?_
      refine g_goto X 21 dX4_step_33 (by decide) ?_
      refine g_lv [0, 1, 2, 3] rfl ?_
      have e9 : runN (i + 1) u = u_2 := by show runOne (runN i u) = _; rw [hw]; exact hu_2
      have q9 := ih (i + 1) (by omega) (by omega)
      rw [e9] at q9
      exact q9

set_option maxRecDepth 100000 in
set_option maxHeartbeats 4000000 in
/-- step -/
theorem c_step {l : Launch} {D : va_G} {ta : Nat → ClassId} {pl : Nat → Nat} {bs : Nat} {al : Ad} {Z : Wo} {u : St} (n : Nat) (h0 : Iv u) (hn : n ≤ 1000) : GD l D ta pl bs yX4_step wsX4_step (rmF 6 133) [.ref (al 0 0), .int (nI n)] al (mC Z ta pl al u) (some (.int (nI (runN n u 3 0) - nI (u 3 0)))) (mC Z ta pl al (runN n u)) := by
  refine GM.of (by decide) rfl (Nat.le_of_ble_eq_true rfl) ?_
  intro p e s m args below meth c X hnm
  have hiX4 : ∀ w ∈ u_ws RX4 TX4 13, w ∈ wsX4_step := by decide +kernel
  refine g_lv (lv' := [(0, .ref (al 0 0)), (1, .int (nI n))]) [0, 1] rfl ?_
  refine g_iload_n X 1 dX4_step_0 rfl rfl ?_
  refine g_if_lt X 11 dX4_step_1 (by decide) (n0_lt (by omega)) (fun c_1 => ?_) (fun c_1 => ?_)
  · exact absurd c_1 (fun z => z)
  · refine g_iload_n X 1 dX4_step_4 rfl rfl ?_
    refine g_sipush X (v := nI 1000) dX4_step_5 (by decide) ?_
    refine g_icmp_le X 14 dX4_step_8 (by decide) (nI_leI (by omega) (by omega)) (fun c_2 => ?_) (fun c_2 => ?_)
    · refine g_aload_n X 0 dX4_step_14 rfl rfl ?_
      refine g_get X 0 0 cx0 rfl 8 (by decide) hiX4 (by decide +kernel) rfl rfl dX4_step_15 ?_
      refine g_istore_n X [(2, .int (nI (u 3 0))), (0, .ref (al 0 0)), (1, .int (nI n))] dX4_step_18 rfl (by decide) rfl ?_
      refine g_iconst X (v := nI 0) dX4_step_19 (by decide) ?_
      refine g_istore_n X [(3, .int (nI 0)), (2, .int (nI (u 3 0))), (0, .ref (al 0 0)), (1, .int (nI n))] dX4_step_20 rfl (by decide) rfl ?_
      refine g_lv [0, 1, 3, 2] rfl ?_
      exact l_step X n h0 hn (n + 1) 0 (Nat.zero_le _) (by omega)
    · exact absurd hn c_2
end
section
set_option maxRecDepth 100000 in
set_option maxHeartbeats 4000000 in
/-- itemNumbered -/
theorem c_itemNumbered_0 {l : Launch} {D : va_G} {ta : Nat → ClassId} {pl : Nat → Nat} {bs : Nat} {al : Ad} {Z : Wo} {u : St} (x : Int32) (h : x < nI 1 ∨ ¬ x ≤ nI (u 2 0)) : GD l D ta pl bs yX4_itemNumbered wsX4_itemNumbered (rmF 0 0) [.ref (al 0 0), .int x] al (mC Z ta pl al u) (some (.null)) (mC Z ta pl al u) := by
  refine GM.of (by decide) rfl (Nat.le_of_ble_eq_true rfl) ?_
  intro p e s m args below meth c X hnm
  have hiX4 : ∀ w ∈ u_ws RX4 TX4 13, w ∈ wsX4_itemNumbered := by decide +kernel
  refine g_lv (lv' := [(0, .ref (al 0 0)), (1, .int x)]) [0, 1] rfl ?_
  refine g_iload_n X 1 dX4_itemNumbered_0 rfl rfl ?_
  refine g_iconst X (v := nI 1) dX4_itemNumbered_1 (by decide) ?_
  refine g_icmp_lt X 13 dX4_itemNumbered_2 (by decide) (Iff.rfl) (fun c_1 => ?_) (fun c_1 => ?_)
  · refine g_null X dX4_itemNumbered_13 ?_
    refine g_goto X 25 dX4_itemNumbered_14 (by decide) ?_
    exact g_aret X rfl ⟨_, rfl⟩ (Or.inl rfl) dX4_itemNumbered_25 ⟨rfl, rfl, rfl⟩
  · refine g_iload_n X 1 dX4_itemNumbered_5 rfl rfl ?_
    refine g_aload_n X 0 dX4_itemNumbered_6 rfl rfl ?_
    refine g_get X 0 0 cx0 rfl 7 (by decide) hiX4 (by decide +kernel) rfl rfl dX4_itemNumbered_7 ?_
    refine g_icmp_le X 17 dX4_itemNumbered_10 (by decide) (Iff.rfl) (fun c_2 => ?_) (fun c_2 => ?_)
    · exact h.elim (fun z => absurd z c_1) (fun z => absurd c_2 z)
    · refine g_null X dX4_itemNumbered_13 ?_
      refine g_goto X 25 dX4_itemNumbered_14 (by decide) ?_
      exact g_aret X rfl ⟨_, rfl⟩ (Or.inl rfl) dX4_itemNumbered_25 ⟨rfl, rfl, rfl⟩

set_option maxRecDepth 100000 in
set_option maxHeartbeats 4000000 in
/-- itemNumbered -/
theorem c_itemNumbered_1 {l : Launch} {D : va_G} {ta : Nat → ClassId} {pl : Nat → Nat} {bs : Nat} {al : Ad} {Z : Wo} {u : St} (i : Nat) (h1 : 1 ≤ i) (h2 : i ≤ u 2 0) (h3 : u 2 0 ≤ 400) (h4 : u 9 (i - 1) = i) : GD l D ta pl bs yX4_itemNumbered wsX4_itemNumbered (rmF 0 0) [.ref (al 0 0), .int (nI i)] al (mC Z ta pl al u) (some (.ref (al 9 i))) (mC Z ta pl al u) := by
  refine GM.of (by decide) rfl (Nat.le_of_ble_eq_true rfl) ?_
  intro p e s m args below meth c X hnm
  have hiX4 : ∀ w ∈ u_ws RX4 TX4 13, w ∈ wsX4_itemNumbered := by decide +kernel
  refine g_lv (lv' := [(0, .ref (al 0 0)), (1, .int (nI i))]) [0, 1] rfl ?_
  refine g_iload_n X 1 dX4_itemNumbered_0 rfl rfl ?_
  refine g_iconst X (v := nI 1) dX4_itemNumbered_1 (by decide) ?_
  refine g_icmp_lt X 13 dX4_itemNumbered_2 (by decide) (nI_ltI (by omega) (by omega)) (fun c_1 => ?_) (fun c_1 => ?_)
  · exact absurd c_1 (by omega)
  · refine g_iload_n X 1 dX4_itemNumbered_5 rfl rfl ?_
    refine g_aload_n X 0 dX4_itemNumbered_6 rfl rfl ?_
    refine g_get X 0 0 cx0 rfl 7 (by decide) hiX4 (by decide +kernel) rfl rfl dX4_itemNumbered_7 ?_
    refine g_icmp_le X 17 dX4_itemNumbered_10 (by decide) (nI_leI (by omega) (by omega)) (fun c_2 => ?_) (fun c_2 => ?_)
    · refine g_aload_n X 0 dX4_itemNumbered_17 rfl rfl ?_
      refine g_get X 0 0 cx0 rfl 5 (by decide) hiX4 (by decide +kernel) rfl rfl dX4_itemNumbered_18 ?_
      refine g_iload_n X 1 dX4_itemNumbered_21 rfl rfl ?_
      refine g_iconst X (v := nI 1) dX4_itemNumbered_22 (by decide) ?_
      refine g_isub X dX4_itemNumbered_23 (pk_sub (by omega)) ?_
      have b_3 : u 9 (i - 1) ≠ 0 := by omega
      refine g_aald0 X 7 0 cx7 (i - 1) (by omega) (by omega) (rI_vp b_3) dX4_itemNumbered_24 ?_
      exact g_aret X rfl ⟨_, rfl⟩ (Or.inr ⟨_, rfl⟩) dX4_itemNumbered_25 ⟨by rw [h4], rfl, rfl⟩
    · exact absurd h2 c_2

set_option maxRecDepth 100000 in
set_option maxHeartbeats 4000000 in
/-- missed -/
theorem c_missed_u {l : Launch} {D : va_G} {ta : Nat → ClassId} {pl : Nat → Nat} {bs : Nat} {al : Ad} {Z : Wo} {u : St} (x : Int32) (h : x < nI 1 ∨ ¬ x ≤ nI (u 2 0)) : GD l D ta pl bs yX4_missed wsX4_missed (rmF 1 21) [.ref (al 0 0), .int x] al (mC Z ta pl al u) (some (.int (-11))) (mC Z ta pl al u) := by
  refine GM.of (by decide) rfl (Nat.le_of_ble_eq_true rfl) ?_
  intro p e s m args below meth c X hnm
  refine g_lv (lv' := [(0, .ref (al 0 0)), (1, .int x)]) [0, 1] rfl ?_
  refine g_aload_n X 0 dX4_missed_0 rfl rfl ?_
  refine g_iload_n X 1 dX4_missed_1 rfl rfl ?_
  refine g_callDV1 (n := 1) X 0 0 [.int x] cx0 rfl (c_itemNumbered_0 x h) gX4_missed_X4_itemNumbered rfl ⟨rfl, rfl⟩ (by decide +kernel) ⟨by decide, by decide⟩ rfl (Nat.le_of_ble_eq_true rfl) dX4_missed_2 ⟨Nat.zero_le _, Nat.zero_le _⟩ _ rfl ?_
  refine g_astore_nN X [(2, .null), (0, .ref (al 0 0)), (1, .int x)] dX4_missed_5 rfl (by decide) rfl ?_
  refine g_aload_nN X 0 dX4_missed_6 rfl rfl ?_
  refine g_ifnonnull_n X dX4_missed_7 ?_
  refine g_bipush X (v := -11) dX4_missed_10 (by decide) ?_
  exact g_iret X rfl dX4_missed_12 ⟨rfl, rfl, rfl⟩

set_option maxRecDepth 100000 in
set_option maxHeartbeats 4000000 in
/-- missed -/
theorem c_missed_s {l : Launch} {D : va_G} {ta : Nat → ClassId} {pl : Nat → Nat} {bs : Nat} {al : Ad} {Z : Wo} {u : St} (i : Nat) (hI : Iv u)(hi1 : 1 ≤ i) (hi2 : i ≤ u 2 0)(hp : u 23 i ≠ 1) : GD l D ta pl bs yX4_missed wsX4_missed (rmF 1 21) [.ref (al 0 0), .int (nI i)] al (mC Z ta pl al u) (some (.int (-13))) (mC Z ta pl al u) := by
  refine GM.of (by decide) rfl (Nat.le_of_ble_eq_true rfl) ?_
  intro p e s m args below meth c X hnm
  have hiX2 : ∀ w ∈ u_ws RX2 TX2 8, w ∈ wsX4_missed := by decide +kernel
  obtain ⟨⟨h1, h2, h7, hN, h30, h51, h52⟩, hI2, hI3, -, hI5, hI6, hI7⟩ := id hI
  obtain ⟨hp1, hp2, hp3, hp4, hp5, -⟩ := hI2 i hi1 hi2
  refine g_lv (lv' := [(0, .ref (al 0 0)), (1, .int (nI i))]) [0, 1] rfl ?_
  refine g_aload_n X 0 dX4_missed_0 rfl rfl ?_
  refine g_iload_n X 1 dX4_missed_1 rfl rfl ?_
  refine g_callDV1 (n := 1) X 0 0 [.int (nI i)] cx0 rfl (c_itemNumbered_1 i (by omega) (by omega) (by omega) (by have := (hI6 (i - 1)).2 (by omega); omega)) gX4_missed_X4_itemNumbered rfl ⟨rfl, rfl⟩ (by decide +kernel) ⟨by decide, by decide⟩ rfl (Nat.le_of_ble_eq_true rfl) dX4_missed_2 ⟨Nat.zero_le _, Nat.zero_le _⟩ _ rfl ?_
  refine g_astore_n X [(2, .ref (al 9 i)), (0, .ref (al 0 0)), (1, .int (nI i))] dX4_missed_5 rfl (by decide) rfl ?_
  refine g_aload_n X 0 dX4_missed_6 rfl rfl ?_
  refine g_ifnonnull_r X 13 dX4_missed_7 (by decide) ?_
  refine g_aload_n X 0 dX4_missed_13 rfl rfl ?_
  refine g_get X 9 i (cx9 ⟨by omega, by omega⟩) rfl 3 (by decide) hiX2 (by decide +kernel) rfl rfl dX4_missed_14 ?_
  refine g_place X 1 (by decide) "CARRIED" rfl (by decide +kernel) dX4_missed_17 ?_
  refine g_acmp_eq X 26 dX4_missed_20 (by decide) (plI X.2.2.2 (by omega) (by omega)) (fun c_1 => ?_) (fun c_1 => ?_)
  · exact absurd c_1 hp
  · refine g_bipush X (v := -13) dX4_missed_23 (by decide) ?_
    exact g_iret X rfl dX4_missed_25 ⟨rfl, rfl, rfl⟩

set_option maxRecDepth 100000 in
set_option maxHeartbeats 4000000 in
/-- missed -/
theorem c_missed_1 {l : Launch} {D : va_G} {ta : Nat → ClassId} {pl : Nat → Nat} {bs : Nat} {al : Ad} {Z : Wo} {u : St} (i : Nat) (hI : Iv u)(hi1 : 1 ≤ i) (hi2 : i ≤ u 2 0)(hp : u 23 i = 1) : GD l D ta pl bs yX4_missed wsX4_missed (rmF 1 21) [.ref (al 0 0), .int (nI i)] al (mC Z ta pl al u) (some (.int (nI (u 24 i)))) (mC Z ta pl al (st u 23 i 2)) := by
  refine GM.of (by decide) rfl (Nat.le_of_ble_eq_true rfl) ?_
  intro p e s m args below meth c X hnm
  have hiX2 : ∀ w ∈ u_ws RX2 TX2 8, w ∈ wsX4_missed := by decide +kernel
  obtain ⟨⟨h1, h2, h7, hN, h30, h51, h52⟩, hI2, hI3, -, hI5, hI6, hI7⟩ := id hI
  obtain ⟨hp1, hp2, hp3, hp4, hp5, -⟩ := hI2 i hi1 hi2
  refine g_lv (lv' := [(0, .ref (al 0 0)), (1, .int (nI i))]) [0, 1] rfl ?_
  refine g_aload_n X 0 dX4_missed_0 rfl rfl ?_
  refine g_iload_n X 1 dX4_missed_1 rfl rfl ?_
  refine g_callDV1 (n := 1) X 0 0 [.int (nI i)] cx0 rfl (c_itemNumbered_1 i (by omega) (by omega) (by omega) (by have := (hI6 (i - 1)).2 (by omega); omega)) gX4_missed_X4_itemNumbered rfl ⟨rfl, rfl⟩ (by decide +kernel) ⟨by decide, by decide⟩ rfl (Nat.le_of_ble_eq_true rfl) dX4_missed_2 ⟨Nat.zero_le _, Nat.zero_le _⟩ _ rfl ?_
  refine g_astore_n X [(2, .ref (al 9 i)), (0, .ref (al 0 0)), (1, .int (nI i))] dX4_missed_5 rfl (by decide) rfl ?_
  refine g_aload_n X 0 dX4_missed_6 rfl rfl ?_
  refine g_ifnonnull_r X 13 dX4_missed_7 (by decide) ?_
  refine g_aload_n X 0 dX4_missed_13 rfl rfl ?_
  refine g_get X 9 i (cx9 ⟨by omega, by omega⟩) rfl 3 (by decide) hiX2 (by decide +kernel) rfl rfl dX4_missed_14 ?_
  refine g_place X 1 (by decide) "CARRIED" rfl (by decide +kernel) dX4_missed_17 ?_
  refine g_acmp_eq X 26 dX4_missed_20 (by decide) (plI X.2.2.2 (by omega) (by omega)) (fun c_1 => ?_) (fun c_1 => ?_)
  · refine g_aload_n X 0 dX4_missed_26 rfl rfl ?_
    refine g_place X 2 (by decide) "MISSED" rfl (by decide +kernel) dX4_missed_27 ?_
    refine g_put X tyX2 tyX2_ok nmX2 9 i (cx9 ⟨by omega, by omega⟩) rfl 3 (by decide) hiX2 (by decide +kernel) rfl rfl (ty := .object "LoopSorter$Place") (by decide +kernel) rfl rfl (Nat.le_of_ble_eq_true rfl) _ (up_place ⟨by omega, by omega⟩) dX4_missed_30 ?_
    generalize hu_2 : st u 23 i 2 = u_2
    have k0u_2 : u_2 0 0 = u 0 0 := by rw [← hu_2]; first | rfl | exact st_nf (by omega)
    have k30u_2 : u_2 30 0 = u 30 0 := by rw [← hu_2]; first | rfl | exact st_nf (by omega)
    have k24u_2 : u_2 24 i = u 24 i := by rw [← hu_2]; first | rfl | exact st_nf (by omega)
    refine g_aload_n X 0 dX4_missed_33 rfl rfl ?_
    refine g_get X 9 i (cx9 ⟨by omega, by omega⟩) rfl 4 (by decide) hiX2 (by decide +kernel) rfl rfl dX4_missed_34 ?_
    exact g_iret X rfl dX4_missed_37 ⟨by rw [k24u_2], rfl, by subst hu_2; rfl⟩
  · exact absurd hp c_1

set_option maxRecDepth 100000 in
set_option maxHeartbeats 4000000 in
/-- round -/
theorem c_round_u {l : Launch} {D : va_G} {ta : Nat → ClassId} {pl : Nat → Nat} {bs : Nat} {al : Ad} {Z : Wo} {u : St} (x : Int32) (h : x < nI 1 ∨ ¬ x ≤ nI (u 2 0)) : GD l D ta pl bs yX4_round wsX4_round (rmF 1 21) [.ref (al 0 0), .int x] al (mC Z ta pl al u) (some (.int (-11))) (mC Z ta pl al u) := by
  refine GM.of (by decide) rfl (Nat.le_of_ble_eq_true rfl) ?_
  intro p e s m args below meth c X hnm
  refine g_lv (lv' := [(0, .ref (al 0 0)), (1, .int x)]) [0, 1] rfl ?_
  refine g_aload_n X 0 dX4_round_0 rfl rfl ?_
  refine g_iload_n X 1 dX4_round_1 rfl rfl ?_
  refine g_callDV1 (n := 1) X 0 0 [.int x] cx0 rfl (c_itemNumbered_0 x h) gX4_round_X4_itemNumbered rfl ⟨rfl, rfl⟩ (by decide +kernel) ⟨by decide, by decide⟩ rfl (Nat.le_of_ble_eq_true rfl) dX4_round_2 ⟨Nat.zero_le _, Nat.zero_le _⟩ _ rfl ?_
  refine g_astore_nN X [(2, .null), (0, .ref (al 0 0)), (1, .int x)] dX4_round_5 rfl (by decide) rfl ?_
  refine g_aload_nN X 0 dX4_round_6 rfl rfl ?_
  refine g_ifnonnull_n X dX4_round_7 ?_
  refine g_bipush X (v := -11) dX4_round_10 (by decide) ?_
  refine g_goto X 19 dX4_round_12 (by decide) ?_
  exact g_iret X rfl dX4_round_19 ⟨rfl, rfl, rfl⟩

set_option maxRecDepth 100000 in
set_option maxHeartbeats 4000000 in
/-- round -/
theorem c_round_1 {l : Launch} {D : va_G} {ta : Nat → ClassId} {pl : Nat → Nat} {bs : Nat} {al : Ad} {Z : Wo} {u : St} (i : Nat) (hI : Iv u)(hi1 : 1 ≤ i) (hi2 : i ≤ u 2 0) : GD l D ta pl bs yX4_round wsX4_round (rmF 1 21) [.ref (al 0 0), .int (nI i)] al (mC Z ta pl al u) (some (.int (nI (u 25 i)))) (mC Z ta pl al u) := by
  refine GM.of (by decide) rfl (Nat.le_of_ble_eq_true rfl) ?_
  intro p e s m args below meth c X hnm
  have hiX2 : ∀ w ∈ u_ws RX2 TX2 8, w ∈ wsX4_round := by decide +kernel
  obtain ⟨⟨h1, h2, h7, hN, h30, h51, h52⟩, hI2, hI3, -, hI5, hI6, hI7⟩ := id hI
  obtain ⟨hp1, hp2, hp3, hp4, hp5, -⟩ := hI2 i hi1 hi2
  refine g_lv (lv' := [(0, .ref (al 0 0)), (1, .int (nI i))]) [0, 1] rfl ?_
  refine g_aload_n X 0 dX4_round_0 rfl rfl ?_
  refine g_iload_n X 1 dX4_round_1 rfl rfl ?_
  refine g_callDV1 (n := 1) X 0 0 [.int (nI i)] cx0 rfl (c_itemNumbered_1 i (by omega) (by omega) (by omega) (by have := (hI6 (i - 1)).2 (by omega); omega)) gX4_round_X4_itemNumbered rfl ⟨rfl, rfl⟩ (by decide +kernel) ⟨by decide, by decide⟩ rfl (Nat.le_of_ble_eq_true rfl) dX4_round_2 ⟨Nat.zero_le _, Nat.zero_le _⟩ _ rfl ?_
  refine g_astore_n X [(2, .ref (al 9 i)), (0, .ref (al 0 0)), (1, .int (nI i))] dX4_round_5 rfl (by decide) rfl ?_
  refine g_aload_n X 0 dX4_round_6 rfl rfl ?_
  refine g_ifnonnull_r X 15 dX4_round_7 (by decide) ?_
  refine g_aload_n X 0 dX4_round_15 rfl rfl ?_
  refine g_get X 9 i (cx9 ⟨by omega, by omega⟩) rfl 5 (by decide) hiX2 (by decide +kernel) rfl rfl dX4_round_16 ?_
  exact g_iret X rfl dX4_round_19 ⟨rfl, rfl, rfl⟩

set_option maxRecDepth 100000 in
set_option maxHeartbeats 4000000 in
/-- speed -/
theorem c_speed_u {l : Launch} {D : va_G} {ta : Nat → ClassId} {pl : Nat → Nat} {bs : Nat} {al : Ad} {Z : Wo} {u : St} (x : Int32) (h : x < nI 1 ∨ ¬ x ≤ nI 5) : GD l D ta pl bs yX4_speed wsX4_speed (rmF 0 0) [.ref (al 0 0), .int x] al (mC Z ta pl al u) (some (.int (-12))) (mC Z ta pl al u) := by
  refine GM.of (by decide) rfl (Nat.le_of_ble_eq_true rfl) ?_
  intro p e s m args below meth c X hnm
  refine g_lv (lv' := [(0, .ref (al 0 0)), (1, .int x)]) [0, 1] rfl ?_
  refine g_iload_n X 1 dX4_speed_0 rfl rfl ?_
  refine g_iconst X (v := nI 1) dX4_speed_1 (by decide) ?_
  refine g_icmp_lt X 10 dX4_speed_2 (by decide) (Iff.rfl) (fun c_1 => ?_) (fun c_1 => ?_)
  · refine g_bipush X (v := -12) dX4_speed_10 (by decide) ?_
    exact g_iret X rfl dX4_speed_12 ⟨rfl, rfl, rfl⟩
  · refine g_iload_n X 1 dX4_speed_5 rfl rfl ?_
    refine g_iconst X (v := nI 5) dX4_speed_6 (by decide) ?_
    refine g_icmp_le X 13 dX4_speed_7 (by decide) (Iff.rfl) (fun c_2 => ?_) (fun c_2 => ?_)
    · exact h.elim (fun z => absurd z c_1) (fun z => absurd c_2 z)
    · refine g_bipush X (v := -12) dX4_speed_10 (by decide) ?_
      exact g_iret X rfl dX4_speed_12 ⟨rfl, rfl, rfl⟩

set_option maxRecDepth 100000 in
set_option maxHeartbeats 4000000 in
/-- speed -/
theorem c_speed_1 {l : Launch} {D : va_G} {ta : Nat → ClassId} {pl : Nat → Nat} {bs : Nat} {al : Ad} {Z : Wo} {u : St} (n : Nat) (h1 : 1 ≤ n) (h2 : n ≤ 5) : GD l D ta pl bs yX4_speed wsX4_speed (rmF 0 0) [.ref (al 0 0), .int (nI n)] al (mC Z ta pl al u) (some (.int (nI (u 5 0)))) (mC Z ta pl al (st u 5 0 n)) := by
  refine GM.of (by decide) rfl (Nat.le_of_ble_eq_true rfl) ?_
  intro p e s m args below meth c X hnm
  have hiX4 : ∀ w ∈ u_ws RX4 TX4 13, w ∈ wsX4_speed := by decide +kernel
  refine g_lv (lv' := [(0, .ref (al 0 0)), (1, .int (nI n))]) [0, 1] rfl ?_
  refine g_iload_n X 1 dX4_speed_0 rfl rfl ?_
  refine g_iconst X (v := nI 1) dX4_speed_1 (by decide) ?_
  refine g_icmp_lt X 10 dX4_speed_2 (by decide) (nI_ltI (by omega) (by omega)) (fun c_1 => ?_) (fun c_1 => ?_)
  · exact absurd c_1 (by omega)
  · refine g_iload_n X 1 dX4_speed_5 rfl rfl ?_
    refine g_iconst X (v := nI 5) dX4_speed_6 (by decide) ?_
    refine g_icmp_le X 13 dX4_speed_7 (by decide) (nI_leI (by omega) (by omega)) (fun c_2 => ?_) (fun c_2 => ?_)
    · refine g_aload_n X 0 dX4_speed_13 rfl rfl ?_
      refine g_get X 0 0 cx0 rfl 10 (by decide) hiX4 (by decide +kernel) rfl rfl dX4_speed_14 ?_
      refine g_istore_n X [(2, .int (nI (u 5 0))), (0, .ref (al 0 0)), (1, .int (nI n))] dX4_speed_17 rfl (by decide) rfl ?_
      refine g_aload_n X 1 dX4_speed_18 rfl rfl ?_
      refine g_iload_n X 2 dX4_speed_19 rfl rfl ?_
      refine g_put X tyX4 tyX4_ok nmX4 0 0 cx0 rfl 10 (by decide) hiX4 (by decide +kernel) rfl rfl (ty := .int) (by decide +kernel) rfl rfl (Nat.le_of_ble_eq_true rfl) _ up_movesPerStep dX4_speed_20 ?_
      generalize hu_3 : st u 5 0 n = u_3
      have k0u_3 : u_3 0 0 = u 0 0 := by rw [← hu_3]; first | rfl | exact st_nf (by omega)
      have k30u_3 : u_3 30 0 = u 30 0 := by rw [← hu_3]; first | rfl | exact st_nf (by omega)
      refine g_iload_n X 0 dX4_speed_23 rfl rfl ?_
      exact g_iret X rfl dX4_speed_24 ⟨rfl, rfl, by subst hu_3; rfl⟩
    · exact absurd h2 c_2

set_option maxRecDepth 100000 in
set_option maxHeartbeats 4000000 in
/-- share -/
theorem c_share_u {l : Launch} {D : va_G} {ta : Nat → ClassId} {pl : Nat → Nat} {bs : Nat} {al : Ad} {Z : Wo} {u : St} (x : Int32) (h : ¬ inR x 4) : GD l D ta pl bs yX4_share wsX4_share (rmF 1 20) [.ref (al 0 0), .int x] al (mC Z ta pl al u) (some (.long (-11))) (mC Z ta pl al u) := by
  refine GM.of (by decide) rfl (Nat.le_of_ble_eq_true rfl) ?_
  intro p e s m args below meth c X hnm
  refine g_lv (lv' := [(0, .ref (al 0 0)), (1, .int x)]) [0, 1] rfl ?_
  refine g_iload_n X 1 dX4_share_0 rfl rfl ?_
  refine g_callDS1 (n := 1) X [.int x] (c_isInduct x) gX4_share_X4_isInduct rfl ⟨rfl, rfl⟩ (by decide +kernel) ⟨by decide, by decide⟩ rfl (Nat.le_of_ble_eq_true rfl) dX4_share_1 ⟨Nat.zero_le _, Nat.zero_le _⟩ _ rfl ?_
  refine g_if_eq X 19 dX4_share_4 (by decide) (bN_eq0) (fun c_1 => ?_) (fun c_1 => ?_)
  · refine g_ldc2 X (v := -11) dX4_share_19 (by decide +kernel) ?_
    exact g_lret X rfl dX4_share_22 ⟨rfl, rfl, rfl⟩
  · have c_1 := Decidable.of_not_not c_1
    exact absurd c_1 h

set_option maxRecDepth 100000 in
set_option maxHeartbeats 4000000 in
/-- share -/
theorem c_share_1 {l : Launch} {D : va_G} {ta : Nat → ClassId} {pl : Nat → Nat} {bs : Nat} {al : Ad} {Z : Wo} {u : St} (j : Nat) (h : j < 4) : GD l D ta pl bs yX4_share wsX4_share (rmF 1 20) [.ref (al 0 0), .int (nI j)] al (mC Z ta pl al u) (some (.long (lN (u 13 (j + 1))))) (mC Z ta pl al u) := by
  refine GM.of (by decide) rfl (Nat.le_of_ble_eq_true rfl) ?_
  intro p e s m args below meth c X hnm
  have hiX1 : ∀ w ∈ u_ws RX1 TX1 5, w ∈ wsX4_share := by decide +kernel
  have hiX4 : ∀ w ∈ u_ws RX4 TX4 13, w ∈ wsX4_share := by decide +kernel
  refine g_lv (lv' := [(0, .ref (al 0 0)), (1, .int (nI j))]) [0, 1] rfl ?_
  refine g_iload_n X 1 dX4_share_0 rfl rfl ?_
  refine g_callDS1 (n := 1) X [.int (nI j)] (c_isInduct ((nI j))) gX4_share_X4_isInduct rfl ⟨rfl, rfl⟩ (by decide +kernel) ⟨by decide, by decide⟩ rfl (Nat.le_of_ble_eq_true rfl) dX4_share_1 ⟨Nat.zero_le _, Nat.zero_le _⟩ _ rfl ?_
  refine g_if_eq X 19 dX4_share_4 (by decide) (bN_eq0) (fun c_1 => ?_) (fun c_1 => ?_)
  · exact absurd (inR_nI h (by decide)) c_1
  · have c_1 := Decidable.of_not_not c_1
    refine g_aload_n X 0 dX4_share_7 rfl rfl ?_
    refine g_get X 0 0 cx0 rfl 3 (by decide) hiX4 (by decide +kernel) rfl rfl dX4_share_8 ?_
    refine g_iload_n X 1 dX4_share_11 rfl rfl ?_
    refine g_aald1 X 2 0 cx2 j (by omega) (by omega) (ar2 (by omega)) dX4_share_12 ?_
    refine g_get X 3 (j + 1) (cx3 ⟨by omega, by omega⟩) rfl 3 (by decide) hiX1 (by decide +kernel) rfl rfl dX4_share_13 ?_
    refine g_goto X 22 dX4_share_16 (by decide) ?_
    exact g_lret X rfl dX4_share_22 ⟨rfl, rfl, rfl⟩

set_option maxRecDepth 100000 in
set_option maxHeartbeats 4000000 in
/-- step -/
theorem c_step_u {l : Launch} {D : va_G} {ta : Nat → ClassId} {pl : Nat → Nat} {bs : Nat} {al : Ad} {Z : Wo} {u : St} (x : Int32) (h : x < 0 ∨ ¬ x ≤ nI 1000) : GD l D ta pl bs yX4_step wsX4_step (rmF 0 0) [.ref (al 0 0), .int x] al (mC Z ta pl al u) (some (.int (-12))) (mC Z ta pl al u) := by
  refine GM.of (by decide) rfl (Nat.le_of_ble_eq_true rfl) ?_
  intro p e s m args below meth c X hnm
  refine g_lv (lv' := [(0, .ref (al 0 0)), (1, .int x)]) [0, 1] rfl ?_
  refine g_iload_n X 1 dX4_step_0 rfl rfl ?_
  refine g_if_lt X 11 dX4_step_1 (by decide) (Iff.rfl) (fun c_1 => ?_) (fun c_1 => ?_)
  · refine g_bipush X (v := -12) dX4_step_11 (by decide) ?_
    exact g_iret X rfl dX4_step_13 ⟨rfl, rfl, rfl⟩
  · refine g_iload_n X 1 dX4_step_4 rfl rfl ?_
    refine g_sipush X (v := nI 1000) dX4_step_5 (by decide) ?_
    refine g_icmp_le X 14 dX4_step_8 (by decide) (Iff.rfl) (fun c_2 => ?_) (fun c_2 => ?_)
    · exact h.elim (fun z => absurd z c_1) (fun z => absurd c_2 z)
    · refine g_bipush X (v := -12) dX4_step_11 (by decide) ?_
      exact g_iret X rfl dX4_step_13 ⟨rfl, rfl, rfl⟩

set_option maxRecDepth 100000 in
set_option maxHeartbeats 4000000 in
/-- out -/
theorem c_out_u {l : Launch} {D : va_G} {ta : Nat → ClassId} {pl : Nat → Nat} {bs : Nat} {al : Ad} {Z : Wo} {u : St} (x y : Int32) (h : x < 0 ∨ ¬ x < nI (u 3 0)) : GD l D ta pl bs yX4_out wsX4_out (rmF 0 0) [.ref (al 0 0), .int x, .int y] al (mC Z ta pl al u) (some (.int (-11))) (mC Z ta pl al u) := by
  refine GM.of (by decide) rfl (Nat.le_of_ble_eq_true rfl) ?_
  intro p e s m args below meth c X hnm
  have hiX4 : ∀ w ∈ u_ws RX4 TX4 13, w ∈ wsX4_out := by decide +kernel
  refine g_lv (lv' := [(0, .ref (al 0 0)), (1, .int x), (2, .int y)]) [0, 1, 2] rfl ?_
  refine g_iload_n X 1 dX4_out_0 rfl rfl ?_
  refine g_if_lt X 12 dX4_out_1 (by decide) (Iff.rfl) (fun c_1 => ?_) (fun c_1 => ?_)
  · refine g_bipush X (v := -11) dX4_out_12 (by decide) ?_
    exact g_iret X rfl dX4_out_14 ⟨rfl, rfl, rfl⟩
  · refine g_iload_n X 1 dX4_out_4 rfl rfl ?_
    refine g_aload_n X 0 dX4_out_5 rfl rfl ?_
    refine g_get X 0 0 cx0 rfl 8 (by decide) hiX4 (by decide +kernel) rfl rfl dX4_out_6 ?_
    refine g_icmp_lt X 15 dX4_out_9 (by decide) (Iff.rfl) (fun c_2 => ?_) (fun c_2 => ?_)
    · exact h.elim (fun z => absurd z c_1) (fun z => absurd c_2 z)
    · refine g_bipush X (v := -11) dX4_out_12 (by decide) ?_
      exact g_iret X rfl dX4_out_14 ⟨rfl, rfl, rfl⟩

set_option maxRecDepth 100000 in
set_option maxHeartbeats 4000000 in
/-- out -/
theorem c_out_0 {l : Launch} {D : va_G} {ta : Nat → ClassId} {pl : Nat → Nat} {bs : Nat} {al : Ad} {Z : Wo} {u : St} (j : Nat) (hI : Iv u)(h : j < u 3 0) : GD l D ta pl bs yX4_out wsX4_out (rmF 0 0) [.ref (al 0 0), .int (nI j), .int (nI 0)] al (mC Z ta pl al u) (some (.int (nI (u 10 j)))) (mC Z ta pl al u) := by
  refine GM.of (by decide) rfl (Nat.le_of_ble_eq_true rfl) ?_
  intro p e s m args below meth c X hnm
  have hiX2 : ∀ w ∈ u_ws RX2 TX2 8, w ∈ wsX4_out := by decide +kernel
  have hiX4 : ∀ w ∈ u_ws RX4 TX4 13, w ∈ wsX4_out := by decide +kernel
  obtain ⟨⟨h1, h2, h7, hN, h30, h51, h52⟩, hI2, hI3, -, hI5, hI6, hI7⟩ := id hI
  have hg := hI.le3
  have hj := hI7 j
  have hj2 := hj.2 h
  refine g_lv (lv' := [(0, .ref (al 0 0)), (1, .int (nI j)), (2, .int (nI 0))]) [0, 1, 2] rfl ?_
  refine g_iload_n X 1 dX4_out_0 rfl rfl ?_
  refine g_if_lt X 12 dX4_out_1 (by decide) (n0_lt (by omega)) (fun c_1 => ?_) (fun c_1 => ?_)
  · exact absurd c_1 (fun z => z)
  · refine g_iload_n X 1 dX4_out_4 rfl rfl ?_
    refine g_aload_n X 0 dX4_out_5 rfl rfl ?_
    refine g_get X 0 0 cx0 rfl 8 (by decide) hiX4 (by decide +kernel) rfl rfl dX4_out_6 ?_
    refine g_icmp_lt X 15 dX4_out_9 (by decide) (nI_ltI (by omega) (by omega)) (fun c_2 => ?_) (fun c_2 => ?_)
    · refine g_aload_n X 0 dX4_out_15 rfl rfl ?_
      refine g_get X 0 0 cx0 rfl 6 (by decide) hiX4 (by decide +kernel) rfl rfl dX4_out_16 ?_
      refine g_iload_n X 1 dX4_out_19 rfl rfl ?_
      have b_3 : u 10 j ≠ 0 := by omega
      refine g_aald0 X 8 0 cx8 j (by omega) (by omega) (rI_vp b_3) dX4_out_20 ?_
      refine g_astore_n X [(3, .ref (al 9 (u 10 j))), (0, .ref (al 0 0)), (1, .int (nI j)), (2, .int (nI 0))] dX4_out_21 rfl (by decide) rfl ?_
      refine g_iload_n X 3 dX4_out_22 rfl rfl ?_
      refine g_tableIn X (off := 29) 52 dX4_out_23 (by decide) (by decide) (by decide) (by decide) ?_
      refine g_aload_n X 0 dX4_out_52 rfl rfl ?_
      refine g_get X 9 (u 10 j) (cx9 ⟨by omega, by omega⟩) rfl 0 (by decide) hiX2 (by decide +kernel) rfl rfl dX4_out_53 ?_
      exact g_iret X rfl dX4_out_56 ⟨rfl, rfl, rfl⟩
    · exact absurd h c_2

set_option maxRecDepth 100000 in
set_option maxHeartbeats 4000000 in
/-- out -/
theorem c_out_1 {l : Launch} {D : va_G} {ta : Nat → ClassId} {pl : Nat → Nat} {bs : Nat} {al : Ad} {Z : Wo} {u : St} (j : Nat) (hI : Iv u)(h : j < u 3 0) : GD l D ta pl bs yX4_out wsX4_out (rmF 0 0) [.ref (al 0 0), .int (nI j), .int (nI 1)] al (mC Z ta pl al u) (some (.int (nI (u 26 (u 10 j))))) (mC Z ta pl al u) := by
  refine GM.of (by decide) rfl (Nat.le_of_ble_eq_true rfl) ?_
  intro p e s m args below meth c X hnm
  have hiX2 : ∀ w ∈ u_ws RX2 TX2 8, w ∈ wsX4_out := by decide +kernel
  have hiX4 : ∀ w ∈ u_ws RX4 TX4 13, w ∈ wsX4_out := by decide +kernel
  obtain ⟨⟨h1, h2, h7, hN, h30, h51, h52⟩, hI2, hI3, -, hI5, hI6, hI7⟩ := id hI
  have hg := hI.le3
  have hj := hI7 j
  have hj2 := hj.2 h
  refine g_lv (lv' := [(0, .ref (al 0 0)), (1, .int (nI j)), (2, .int (nI 1))]) [0, 1, 2] rfl ?_
  refine g_iload_n X 1 dX4_out_0 rfl rfl ?_
  refine g_if_lt X 12 dX4_out_1 (by decide) (n0_lt (by omega)) (fun c_1 => ?_) (fun c_1 => ?_)
  · exact absurd c_1 (fun z => z)
  · refine g_iload_n X 1 dX4_out_4 rfl rfl ?_
    refine g_aload_n X 0 dX4_out_5 rfl rfl ?_
    refine g_get X 0 0 cx0 rfl 8 (by decide) hiX4 (by decide +kernel) rfl rfl dX4_out_6 ?_
    refine g_icmp_lt X 15 dX4_out_9 (by decide) (nI_ltI (by omega) (by omega)) (fun c_2 => ?_) (fun c_2 => ?_)
    · refine g_aload_n X 0 dX4_out_15 rfl rfl ?_
      refine g_get X 0 0 cx0 rfl 6 (by decide) hiX4 (by decide +kernel) rfl rfl dX4_out_16 ?_
      refine g_iload_n X 1 dX4_out_19 rfl rfl ?_
      have b_3 : u 10 j ≠ 0 := by omega
      refine g_aald0 X 8 0 cx8 j (by omega) (by omega) (rI_vp b_3) dX4_out_20 ?_
      refine g_astore_n X [(3, .ref (al 9 (u 10 j))), (0, .ref (al 0 0)), (1, .int (nI j)), (2, .int (nI 1))] dX4_out_21 rfl (by decide) rfl ?_
      refine g_iload_n X 3 dX4_out_22 rfl rfl ?_
      refine g_tableIn X (off := 34) 57 dX4_out_23 (by decide) (by decide) (by decide) (by decide) ?_
      refine g_aload_n X 0 dX4_out_57 rfl rfl ?_
      refine g_get X 9 (u 10 j) (cx9 ⟨by omega, by omega⟩) rfl 6 (by decide) hiX2 (by decide +kernel) rfl rfl dX4_out_58 ?_
      exact g_iret X rfl dX4_out_61 ⟨rfl, rfl, rfl⟩
    · exact absurd h c_2

set_option maxRecDepth 100000 in
set_option maxHeartbeats 4000000 in
/-- out -/
theorem c_out_2 {l : Launch} {D : va_G} {ta : Nat → ClassId} {pl : Nat → Nat} {bs : Nat} {al : Ad} {Z : Wo} {u : St} (j : Nat) (hI : Iv u)(h : j < u 3 0) : GD l D ta pl bs yX4_out wsX4_out (rmF 0 0) [.ref (al 0 0), .int (nI j), .int (nI 2)] al (mC Z ta pl al u) (some (.int (nI (u 27 (u 10 j))))) (mC Z ta pl al u) := by
  refine GM.of (by decide) rfl (Nat.le_of_ble_eq_true rfl) ?_
  intro p e s m args below meth c X hnm
  have hiX2 : ∀ w ∈ u_ws RX2 TX2 8, w ∈ wsX4_out := by decide +kernel
  have hiX4 : ∀ w ∈ u_ws RX4 TX4 13, w ∈ wsX4_out := by decide +kernel
  obtain ⟨⟨h1, h2, h7, hN, h30, h51, h52⟩, hI2, hI3, -, hI5, hI6, hI7⟩ := id hI
  have hg := hI.le3
  have hj := hI7 j
  have hj2 := hj.2 h
  refine g_lv (lv' := [(0, .ref (al 0 0)), (1, .int (nI j)), (2, .int (nI 2))]) [0, 1, 2] rfl ?_
  refine g_iload_n X 1 dX4_out_0 rfl rfl ?_
  refine g_if_lt X 12 dX4_out_1 (by decide) (n0_lt (by omega)) (fun c_1 => ?_) (fun c_1 => ?_)
  · exact absurd c_1 (fun z => z)
  · refine g_iload_n X 1 dX4_out_4 rfl rfl ?_
    refine g_aload_n X 0 dX4_out_5 rfl rfl ?_
    refine g_get X 0 0 cx0 rfl 8 (by decide) hiX4 (by decide +kernel) rfl rfl dX4_out_6 ?_
    refine g_icmp_lt X 15 dX4_out_9 (by decide) (nI_ltI (by omega) (by omega)) (fun c_2 => ?_) (fun c_2 => ?_)
    · refine g_aload_n X 0 dX4_out_15 rfl rfl ?_
      refine g_get X 0 0 cx0 rfl 6 (by decide) hiX4 (by decide +kernel) rfl rfl dX4_out_16 ?_
      refine g_iload_n X 1 dX4_out_19 rfl rfl ?_
      have b_3 : u 10 j ≠ 0 := by omega
      refine g_aald0 X 8 0 cx8 j (by omega) (by omega) (rI_vp b_3) dX4_out_20 ?_
      refine g_astore_n X [(3, .ref (al 9 (u 10 j))), (0, .ref (al 0 0)), (1, .int (nI j)), (2, .int (nI 2))] dX4_out_21 rfl (by decide) rfl ?_
      refine g_iload_n X 3 dX4_out_22 rfl rfl ?_
      refine g_tableIn X (off := 39) 62 dX4_out_23 (by decide) (by decide) (by decide) (by decide) ?_
      refine g_aload_n X 0 dX4_out_62 rfl rfl ?_
      refine g_get X 9 (u 10 j) (cx9 ⟨by omega, by omega⟩) rfl 7 (by decide) hiX2 (by decide +kernel) rfl rfl dX4_out_63 ?_
      exact g_iret X rfl dX4_out_66 ⟨rfl, rfl, rfl⟩
    · exact absurd h c_2

set_option maxRecDepth 100000 in
set_option maxHeartbeats 4000000 in
/-- out -/
theorem c_out_3 {l : Launch} {D : va_G} {ta : Nat → ClassId} {pl : Nat → Nat} {bs : Nat} {al : Ad} {Z : Wo} {u : St} (j : Nat) (hI : Iv u)(h : j < u 3 0) : GD l D ta pl bs yX4_out wsX4_out (rmF 0 0) [.ref (al 0 0), .int (nI j), .int (nI 3)] al (mC Z ta pl al u) (some (.int (nI (u 25 (u 10 j))))) (mC Z ta pl al u) := by
  refine GM.of (by decide) rfl (Nat.le_of_ble_eq_true rfl) ?_
  intro p e s m args below meth c X hnm
  have hiX2 : ∀ w ∈ u_ws RX2 TX2 8, w ∈ wsX4_out := by decide +kernel
  have hiX4 : ∀ w ∈ u_ws RX4 TX4 13, w ∈ wsX4_out := by decide +kernel
  obtain ⟨⟨h1, h2, h7, hN, h30, h51, h52⟩, hI2, hI3, -, hI5, hI6, hI7⟩ := id hI
  have hg := hI.le3
  have hj := hI7 j
  have hj2 := hj.2 h
  refine g_lv (lv' := [(0, .ref (al 0 0)), (1, .int (nI j)), (2, .int (nI 3))]) [0, 1, 2] rfl ?_
  refine g_iload_n X 1 dX4_out_0 rfl rfl ?_
  refine g_if_lt X 12 dX4_out_1 (by decide) (n0_lt (by omega)) (fun c_1 => ?_) (fun c_1 => ?_)
  · exact absurd c_1 (fun z => z)
  · refine g_iload_n X 1 dX4_out_4 rfl rfl ?_
    refine g_aload_n X 0 dX4_out_5 rfl rfl ?_
    refine g_get X 0 0 cx0 rfl 8 (by decide) hiX4 (by decide +kernel) rfl rfl dX4_out_6 ?_
    refine g_icmp_lt X 15 dX4_out_9 (by decide) (nI_ltI (by omega) (by omega)) (fun c_2 => ?_) (fun c_2 => ?_)
    · refine g_aload_n X 0 dX4_out_15 rfl rfl ?_
      refine g_get X 0 0 cx0 rfl 6 (by decide) hiX4 (by decide +kernel) rfl rfl dX4_out_16 ?_
      refine g_iload_n X 1 dX4_out_19 rfl rfl ?_
      have b_3 : u 10 j ≠ 0 := by omega
      refine g_aald0 X 8 0 cx8 j (by omega) (by omega) (rI_vp b_3) dX4_out_20 ?_
      refine g_astore_n X [(3, .ref (al 9 (u 10 j))), (0, .ref (al 0 0)), (1, .int (nI j)), (2, .int (nI 3))] dX4_out_21 rfl (by decide) rfl ?_
      refine g_iload_n X 3 dX4_out_22 rfl rfl ?_
      refine g_tableIn X (off := 44) 67 dX4_out_23 (by decide) (by decide) (by decide) (by decide) ?_
      refine g_aload_n X 0 dX4_out_67 rfl rfl ?_
      refine g_get X 9 (u 10 j) (cx9 ⟨by omega, by omega⟩) rfl 5 (by decide) hiX2 (by decide +kernel) rfl rfl dX4_out_68 ?_
      exact g_iret X rfl dX4_out_71 ⟨rfl, rfl, rfl⟩
    · exact absurd h c_2

set_option maxRecDepth 100000 in
set_option maxHeartbeats 4000000 in
/-- out -/
theorem c_out_o {l : Launch} {D : va_G} {ta : Nat → ClassId} {pl : Nat → Nat} {bs : Nat} {al : Ad} {Z : Wo} {u : St} (j : Nat) (y : Int32) (hI : Iv u)(h : j < u 3 0) (hy : y.toInt < 0 ∨ 3 < y.toInt) : GD l D ta pl bs yX4_out wsX4_out (rmF 0 0) [.ref (al 0 0), .int (nI j), .int y] al (mC Z ta pl al u) (some (.int (-12))) (mC Z ta pl al u) := by
  refine GM.of (by decide) rfl (Nat.le_of_ble_eq_true rfl) ?_
  intro p e s m args below meth c X hnm
  have hiX4 : ∀ w ∈ u_ws RX4 TX4 13, w ∈ wsX4_out := by decide +kernel
  obtain ⟨⟨h1, h2, h7, hN, h30, h51, h52⟩, hI2, hI3, -, hI5, hI6, hI7⟩ := id hI
  have hg := hI.le3
  have hj := hI7 j
  have hj2 := hj.2 h
  refine g_lv (lv' := [(0, .ref (al 0 0)), (1, .int (nI j)), (2, .int y)]) [0, 1, 2] rfl ?_
  refine g_iload_n X 1 dX4_out_0 rfl rfl ?_
  refine g_if_lt X 12 dX4_out_1 (by decide) (n0_lt (by omega)) (fun c_1 => ?_) (fun c_1 => ?_)
  · exact absurd c_1 (fun z => z)
  · refine g_iload_n X 1 dX4_out_4 rfl rfl ?_
    refine g_aload_n X 0 dX4_out_5 rfl rfl ?_
    refine g_get X 0 0 cx0 rfl 8 (by decide) hiX4 (by decide +kernel) rfl rfl dX4_out_6 ?_
    refine g_icmp_lt X 15 dX4_out_9 (by decide) (nI_ltI (by omega) (by omega)) (fun c_2 => ?_) (fun c_2 => ?_)
    · refine g_aload_n X 0 dX4_out_15 rfl rfl ?_
      refine g_get X 0 0 cx0 rfl 6 (by decide) hiX4 (by decide +kernel) rfl rfl dX4_out_16 ?_
      refine g_iload_n X 1 dX4_out_19 rfl rfl ?_
      have b_3 : u 10 j ≠ 0 := by omega
      refine g_aald0 X 8 0 cx8 j (by omega) (by omega) (rI_vp b_3) dX4_out_20 ?_
      refine g_astore_n X [(3, .ref (al 9 (u 10 j))), (0, .ref (al 0 0)), (1, .int (nI j)), (2, .int y)] dX4_out_21 rfl (by decide) rfl ?_
      refine g_iload_n X 3 dX4_out_22 rfl rfl ?_
      refine g_tableOut X 72 dX4_out_23 hy (by decide) ?_
      refine g_bipush X (v := -12) dX4_out_72 (by decide) ?_
      exact g_iret X rfl dX4_out_74 ⟨rfl, rfl, rfl⟩
    · exact absurd h c_2

set_option maxRecDepth 100000 in
set_option maxHeartbeats 4000000 in
/-- full -/
theorem c_full_u {l : Launch} {D : va_G} {ta : Nat → ClassId} {pl : Nat → Nat} {bs : Nat} {al : Ad} {Z : Wo} {u : St} (x y : Int32) (h : ¬ inR x 16) : GD l D ta pl bs yX4_full wsX4_full (rmF 1 20) [.ref (al 0 0), .int x, .int y] al (mC Z ta pl al u) (some (.int (-11))) (mC Z ta pl al u) := by
  refine GM.of (by decide) rfl (Nat.le_of_ble_eq_true rfl) ?_
  intro p e s m args below meth c X hnm
  refine g_lv (lv' := [(0, .ref (al 0 0)), (1, .int x), (2, .int y)]) [0, 1, 2] rfl ?_
  refine g_iload_n X 1 dX4_full_0 rfl rfl ?_
  refine g_callDS1 (n := 1) X [.int x] (c_isChute x) gX4_full_X4_isChute rfl ⟨rfl, rfl⟩ (by decide +kernel) ⟨by decide, by decide⟩ rfl (Nat.le_of_ble_eq_true rfl) dX4_full_1 ⟨Nat.zero_le _, Nat.zero_le _⟩ _ rfl ?_
  refine g_if_ne X 10 dX4_full_4 (by decide) (bN_eq0) (fun c_1 => ?_) (fun c_1 => ?_)
  · have c_1 := Decidable.of_not_not c_1
    exact absurd c_1 h
  · refine g_bipush X (v := -11) dX4_full_7 (by decide) ?_
    exact g_iret X rfl dX4_full_9 ⟨rfl, rfl, rfl⟩

set_option maxRecDepth 100000 in
set_option maxHeartbeats 4000000 in
/-- full -/
theorem c_full_s {l : Launch} {D : va_G} {ta : Nat → ClassId} {pl : Nat → Nat} {bs : Nat} {al : Ad} {Z : Wo} {u : St}   : GD l D ta pl bs yX4_full wsX4_full (rmF 1 20) [.ref (al 0 0), .int (nI 15), .int (nI 1)] al (mC Z ta pl al u) (some (.int (-13))) (mC Z ta pl al u) := by
  refine GM.of (by decide) rfl (Nat.le_of_ble_eq_true rfl) ?_
  intro p e s m args below meth c X hnm
  refine g_lv (lv' := [(0, .ref (al 0 0)), (1, .int (nI 15)), (2, .int (nI 1))]) [0, 1, 2] rfl ?_
  refine g_iload_n X 1 dX4_full_0 rfl rfl ?_
  refine g_callDS1 (n := 1) X [.int (nI 15)] (c_isChute ((nI 15))) gX4_full_X4_isChute rfl ⟨rfl, rfl⟩ (by decide +kernel) ⟨by decide, by decide⟩ rfl (Nat.le_of_ble_eq_true rfl) dX4_full_1 ⟨Nat.zero_le _, Nat.zero_le _⟩ _ rfl ?_
  refine g_if_ne X 10 dX4_full_4 (by decide) (bN_eq0) (fun c_1 => ?_) (fun c_1 => ?_)
  · have c_1 := Decidable.of_not_not c_1
    refine g_iload_n X 2 dX4_full_10 rfl rfl ?_
    refine g_if_eq X 23 dX4_full_11 (by decide) (n0_eq (by omega)) (fun c_2 => ?_) (fun c_2 => ?_)
    · exact absurd c_2 (by decide)
    · refine g_iload_n X 1 dX4_full_14 rfl rfl ?_
      refine g_bipush X (v := nI 15) dX4_full_15 (by decide) ?_
      refine g_icmp_ne X 23 dX4_full_17 (by decide) (nI_eq (by omega) (by omega)) (fun c_3 => ?_) (fun c_3 => ?_)
      · exact absurd c_3 (by decide)
      · refine g_bipush X (v := -13) dX4_full_20 (by decide) ?_
        exact g_iret X rfl dX4_full_22 ⟨rfl, rfl, rfl⟩
  · exact absurd (inR_nI (by decide) (by decide)) c_1

set_option maxRecDepth 100000 in
set_option maxHeartbeats 4000000 in
/-- full -/
theorem c_full_1 {l : Launch} {D : va_G} {ta : Nat → ClassId} {pl : Nat → Nat} {bs : Nat} {al : Ad} {Z : Wo} {u : St} (c0 : Nat) (h : c0 < 15) : GD l D ta pl bs yX4_full wsX4_full (rmF 1 20) [.ref (al 0 0), .int (nI c0), .int (nI 1)] al (mC Z ta pl al u) (some (.int (nI (u 18 c0)))) (mC Z ta pl al (st u 19 c0 1)) := by
  refine GM.of (by decide) rfl (Nat.le_of_ble_eq_true rfl) ?_
  intro p e s m args below meth c X hnm
  have hiX0 : ∀ w ∈ u_ws RX0 TX0 4, w ∈ wsX4_full := by decide +kernel
  have hiX4 : ∀ w ∈ u_ws RX4 TX4 13, w ∈ wsX4_full := by decide +kernel
  refine g_lv (lv' := [(0, .ref (al 0 0)), (1, .int (nI c0)), (2, .int (nI 1))]) [0, 1, 2] rfl ?_
  refine g_iload_n X 1 dX4_full_0 rfl rfl ?_
  refine g_callDS1 (n := 1) X [.int (nI c0)] (c_isChute ((nI c0))) gX4_full_X4_isChute rfl ⟨rfl, rfl⟩ (by decide +kernel) ⟨by decide, by decide⟩ rfl (Nat.le_of_ble_eq_true rfl) dX4_full_1 ⟨Nat.zero_le _, Nat.zero_le _⟩ _ rfl ?_
  refine g_if_ne X 10 dX4_full_4 (by decide) (bN_eq0) (fun c_1 => ?_) (fun c_1 => ?_)
  · have c_1 := Decidable.of_not_not c_1
    refine g_iload_n X 2 dX4_full_10 rfl rfl ?_
    refine g_if_eq X 23 dX4_full_11 (by decide) (n0_eq (by omega)) (fun c_2 => ?_) (fun c_2 => ?_)
    · exact absurd c_2 (by decide)
    · refine g_iload_n X 1 dX4_full_14 rfl rfl ?_
      refine g_bipush X (v := nI 15) dX4_full_15 (by decide) ?_
      refine g_icmp_ne X 23 dX4_full_17 (by decide) (nI_eq (by omega) (by omega)) (fun c_3 => ?_) (fun c_3 => ?_)
      · refine g_aload_n X 0 dX4_full_23 rfl rfl ?_
        refine g_get X 0 0 cx0 rfl 4 (by decide) hiX4 (by decide +kernel) rfl rfl dX4_full_24 ?_
        refine g_iload_n X 1 dX4_full_27 rfl rfl ?_
        refine g_aald2 X 5 0 cx5 c0 (by omega) (by omega) (ar5 (by omega)) dX4_full_28 ?_
        refine g_get X 6 c0 (cx6 (by omega)) rfl 2 (by decide) hiX0 (by decide +kernel) rfl rfl dX4_full_29 ?_
        refine g_istore_n X [(3, .int (nI (u 18 c0))), (0, .ref (al 0 0)), (1, .int (nI c0)), (2, .int (nI 1))] dX4_full_32 rfl (by decide) rfl ?_
        refine g_iload_n X 3 dX4_full_33 rfl rfl ?_
        refine g_if_eq X 49 dX4_full_34 (by decide) (n0_eq (by omega)) (fun c_4 => ?_) (fun c_4 => ?_)
        · exact absurd c_4 (by decide)
        · refine g_aload_n X 1 dX4_full_37 rfl rfl ?_
          refine g_get X 0 0 cx0 rfl 4 (by decide) hiX4 (by decide +kernel) rfl rfl dX4_full_38 ?_
          refine g_iload_n X 2 dX4_full_41 rfl rfl ?_
          refine g_aald2 X 5 0 cx5 c0 (by omega) (by omega) (ar5 (by omega)) dX4_full_42 ?_
          refine g_callDV0 (n := 0) X 6 c0 [] (cx6 (by omega)) rfl (c_holdShut c0 (by omega)) gX4_full_X0_holdShut rfl ⟨rfl, rfl⟩ (by decide +kernel) ⟨by decide, by decide⟩ rfl (Nat.le_of_ble_eq_true rfl) dX4_full_43 ⟨Nat.zero_le _, Nat.zero_le _⟩ _ rfl ?_
          generalize hu_5 : st u 19 c0 1 = u_5
          have k0u_5 : u_5 0 0 = u 0 0 := by rw [← hu_5]; first | rfl | exact st_nf (by omega)
          have k30u_5 : u_5 30 0 = u 30 0 := by rw [← hu_5]; first | rfl | exact st_nf (by omega)
          refine g_goto X 58 dX4_full_46 (by decide) ?_
          refine g_iload_n X 0 dX4_full_58 rfl rfl ?_
          exact g_iret X rfl dX4_full_59 ⟨rfl, rfl, by subst hu_5; rfl⟩
      · exact absurd c_3 (by omega)
  · exact absurd (inR_nI (by omega) (by decide)) c_1

set_option maxRecDepth 100000 in
set_option maxHeartbeats 4000000 in
/-- full -/
theorem c_full_0 {l : Launch} {D : va_G} {ta : Nat → ClassId} {pl : Nat → Nat} {bs : Nat} {al : Ad} {Z : Wo} {u : St} (c0 : Nat) (h : c0 < 16) : GD l D ta pl bs yX4_full wsX4_full (rmF 1 20) [.ref (al 0 0), .int (nI c0), .int (nI 0)] al (mC Z ta pl al u) (some (.int (nI (u 18 c0)))) (mC Z ta pl al (st (st u 19 c0 0) 18 c0 0)) := by
  refine GM.of (by decide) rfl (Nat.le_of_ble_eq_true rfl) ?_
  intro p e s m args below meth c X hnm
  have hiX0 : ∀ w ∈ u_ws RX0 TX0 4, w ∈ wsX4_full := by decide +kernel
  have hiX4 : ∀ w ∈ u_ws RX4 TX4 13, w ∈ wsX4_full := by decide +kernel
  refine g_lv (lv' := [(0, .ref (al 0 0)), (1, .int (nI c0)), (2, .int (nI 0))]) [0, 1, 2] rfl ?_
  refine g_iload_n X 1 dX4_full_0 rfl rfl ?_
  refine g_callDS1 (n := 1) X [.int (nI c0)] (c_isChute ((nI c0))) gX4_full_X4_isChute rfl ⟨rfl, rfl⟩ (by decide +kernel) ⟨by decide, by decide⟩ rfl (Nat.le_of_ble_eq_true rfl) dX4_full_1 ⟨Nat.zero_le _, Nat.zero_le _⟩ _ rfl ?_
  refine g_if_ne X 10 dX4_full_4 (by decide) (bN_eq0) (fun c_1 => ?_) (fun c_1 => ?_)
  · have c_1 := Decidable.of_not_not c_1
    refine g_iload_n X 2 dX4_full_10 rfl rfl ?_
    refine g_if_eq X 23 dX4_full_11 (by decide) (n0_eq (by omega)) (fun c_2 => ?_) (fun c_2 => ?_)
    · refine g_aload_n X 0 dX4_full_23 rfl rfl ?_
      refine g_get X 0 0 cx0 rfl 4 (by decide) hiX4 (by decide +kernel) rfl rfl dX4_full_24 ?_
      refine g_iload_n X 1 dX4_full_27 rfl rfl ?_
      refine g_aald2 X 5 0 cx5 c0 (by omega) (by omega) (ar5 (by omega)) dX4_full_28 ?_
      refine g_get X 6 c0 (cx6 (by omega)) rfl 2 (by decide) hiX0 (by decide +kernel) rfl rfl dX4_full_29 ?_
      refine g_istore_n X [(3, .int (nI (u 18 c0))), (0, .ref (al 0 0)), (1, .int (nI c0)), (2, .int (nI 0))] dX4_full_32 rfl (by decide) rfl ?_
      refine g_iload_n X 3 dX4_full_33 rfl rfl ?_
      refine g_if_eq X 49 dX4_full_34 (by decide) (n0_eq (by omega)) (fun c_3 => ?_) (fun c_3 => ?_)
      · refine g_aload_n X 1 dX4_full_49 rfl rfl ?_
        refine g_get X 0 0 cx0 rfl 4 (by decide) hiX4 (by decide +kernel) rfl rfl dX4_full_50 ?_
        refine g_iload_n X 2 dX4_full_53 rfl rfl ?_
        refine g_aald2 X 5 0 cx5 c0 (by omega) (by omega) (ar5 (by omega)) dX4_full_54 ?_
        refine g_callDV0 (n := 0) X 6 c0 [] (cx6 (by omega)) rfl (c_empty c0 (by omega)) gX4_full_X0_empty rfl ⟨rfl, rfl⟩ (by decide +kernel) ⟨by decide, by decide⟩ rfl (Nat.le_of_ble_eq_true rfl) dX4_full_55 ⟨Nat.zero_le _, Nat.zero_le _⟩ _ rfl ?_
        generalize hu_4 : st (st u 19 c0 0) 18 c0 0 = u_4
        have k0u_4 : u_4 0 0 = u 0 0 := by rw [← hu_4]; first | rfl | exact st_nf (by omega)
        have k30u_4 : u_4 30 0 = u 30 0 := by rw [← hu_4]; first | rfl | exact st_nf (by omega)
        refine g_iload_n X 0 dX4_full_58 rfl rfl ?_
        exact g_iret X rfl dX4_full_59 ⟨rfl, rfl, by subst hu_4; rfl⟩
      · exact absurd c_3 (by decide)
    · exact absurd c_2 (by decide)
  · exact absurd (inR_nI (by omega) (by decide)) c_1

set_option maxRecDepth 100000 in
set_option maxHeartbeats 4000000 in
/-- found -/
theorem c_found_u {l : Launch} {D : va_G} {ta : Nat → ClassId} {pl : Nat → Nat} {bs : Nat} {al : Ad} {Z : Wo} {u : St} (x y : Int32) (h : x < nI 1 ∨ ¬ x ≤ nI (u 2 0)) : GD l D ta pl bs yX4_found wsX4_found (rmF 1 21) [.ref (al 0 0), .int x, .int y] al (mC Z ta pl al u) (some (.int (-11))) (mC Z ta pl al u) := by
  refine GM.of (by decide) rfl (Nat.le_of_ble_eq_true rfl) ?_
  intro p e s m args below meth c X hnm
  refine g_lv (lv' := [(0, .ref (al 0 0)), (1, .int x), (2, .int y)]) [0, 1, 2] rfl ?_
  refine g_aload_n X 0 dX4_found_0 rfl rfl ?_
  refine g_iload_n X 1 dX4_found_1 rfl rfl ?_
  refine g_callDV1 (n := 1) X 0 0 [.int x] cx0 rfl (c_itemNumbered_0 x h) gX4_found_X4_itemNumbered rfl ⟨rfl, rfl⟩ (by decide +kernel) ⟨by decide, by decide⟩ rfl (Nat.le_of_ble_eq_true rfl) dX4_found_2 ⟨Nat.zero_le _, Nat.zero_le _⟩ _ rfl ?_
  refine g_astore_nN X [(3, .null), (0, .ref (al 0 0)), (1, .int x), (2, .int y)] dX4_found_5 rfl (by decide) rfl ?_
  refine g_aload_nN X 0 dX4_found_6 rfl rfl ?_
  refine g_ifnonnull_n X dX4_found_7 ?_
  refine g_bipush X (v := -11) dX4_found_10 (by decide) ?_
  exact g_iret X rfl dX4_found_12 ⟨rfl, rfl, rfl⟩

set_option maxRecDepth 100000 in
set_option maxHeartbeats 4000000 in
/-- found -/
theorem c_found_s {l : Launch} {D : va_G} {ta : Nat → ClassId} {pl : Nat → Nat} {bs : Nat} {al : Ad} {Z : Wo} {u : St} (i : Nat) (y : Int32) (hI : Iv u)(hi1 : 1 ≤ i) (hi2 : i ≤ u 2 0)(hp : u 23 i ≠ 2) : GD l D ta pl bs yX4_found wsX4_found (rmF 1 21) [.ref (al 0 0), .int (nI i), .int y] al (mC Z ta pl al u) (some (.int (-13))) (mC Z ta pl al u) := by
  refine GM.of (by decide) rfl (Nat.le_of_ble_eq_true rfl) ?_
  intro p e s m args below meth c X hnm
  have hiX2 : ∀ w ∈ u_ws RX2 TX2 8, w ∈ wsX4_found := by decide +kernel
  obtain ⟨⟨h1, h2, h7, hN, h30, h51, h52⟩, hI2, hI3, -, hI5, hI6, hI7⟩ := id hI
  obtain ⟨hp1, hp2, hp3, hp4, hp5, -⟩ := hI2 i hi1 hi2
  refine g_lv (lv' := [(0, .ref (al 0 0)), (1, .int (nI i)), (2, .int y)]) [0, 1, 2] rfl ?_
  refine g_aload_n X 0 dX4_found_0 rfl rfl ?_
  refine g_iload_n X 1 dX4_found_1 rfl rfl ?_
  refine g_callDV1 (n := 1) X 0 0 [.int (nI i)] cx0 rfl (c_itemNumbered_1 i (by omega) (by omega) (by omega) (by have := (hI6 (i - 1)).2 (by omega); omega)) gX4_found_X4_itemNumbered rfl ⟨rfl, rfl⟩ (by decide +kernel) ⟨by decide, by decide⟩ rfl (Nat.le_of_ble_eq_true rfl) dX4_found_2 ⟨Nat.zero_le _, Nat.zero_le _⟩ _ rfl ?_
  refine g_astore_n X [(3, .ref (al 9 i)), (0, .ref (al 0 0)), (1, .int (nI i)), (2, .int y)] dX4_found_5 rfl (by decide) rfl ?_
  refine g_aload_n X 0 dX4_found_6 rfl rfl ?_
  refine g_ifnonnull_r X 13 dX4_found_7 (by decide) ?_
  refine g_aload_n X 0 dX4_found_13 rfl rfl ?_
  refine g_get X 9 i (cx9 ⟨by omega, by omega⟩) rfl 3 (by decide) hiX2 (by decide +kernel) rfl rfl dX4_found_14 ?_
  refine g_place X 2 (by decide) "MISSED" rfl (by decide +kernel) dX4_found_17 ?_
  refine g_acmp_eq X 26 dX4_found_20 (by decide) (plI X.2.2.2 (by omega) (by omega)) (fun c_1 => ?_) (fun c_1 => ?_)
  · exact absurd c_1 hp
  · refine g_bipush X (v := -13) dX4_found_23 (by decide) ?_
    exact g_iret X rfl dX4_found_25 ⟨rfl, rfl, rfl⟩

set_option maxRecDepth 100000 in
set_option maxHeartbeats 4000000 in
/-- found -/
theorem c_found_0 {l : Launch} {D : va_G} {ta : Nat → ClassId} {pl : Nat → Nat} {bs : Nat} {al : Ad} {Z : Wo} {u : St} (i t : Nat) (hI : Iv u)(hi1 : 1 ≤ i) (hi2 : i ≤ u 2 0)(hp : u 23 i = 2) (ht : t < u 0 0) (ho : u 24 i ≠ t) : GD l D ta pl bs yX4_found wsX4_found (rmF 1 21) [.ref (al 0 0), .int (nI i), .int (nI t)] al (mC Z ta pl al u) (some (.int (nI 0))) (mC Z ta pl al u) := by
  refine GM.of (by decide) rfl (Nat.le_of_ble_eq_true rfl) ?_
  intro p e s m args below meth c X hnm
  have hiX2 : ∀ w ∈ u_ws RX2 TX2 8, w ∈ wsX4_found := by decide +kernel
  obtain ⟨⟨h1, h2, h7, hN, h30, h51, h52⟩, hI2, hI3, -, hI5, hI6, hI7⟩ := id hI
  obtain ⟨hp1, hp2, hp3, hp4, hp5, -⟩ := hI2 i hi1 hi2
  refine g_lv (lv' := [(0, .ref (al 0 0)), (1, .int (nI i)), (2, .int (nI t))]) [0, 1, 2] rfl ?_
  refine g_aload_n X 0 dX4_found_0 rfl rfl ?_
  refine g_iload_n X 1 dX4_found_1 rfl rfl ?_
  refine g_callDV1 (n := 1) X 0 0 [.int (nI i)] cx0 rfl (c_itemNumbered_1 i (by omega) (by omega) (by omega) (by have := (hI6 (i - 1)).2 (by omega); omega)) gX4_found_X4_itemNumbered rfl ⟨rfl, rfl⟩ (by decide +kernel) ⟨by decide, by decide⟩ rfl (Nat.le_of_ble_eq_true rfl) dX4_found_2 ⟨Nat.zero_le _, Nat.zero_le _⟩ _ rfl ?_
  refine g_astore_n X [(3, .ref (al 9 i)), (0, .ref (al 0 0)), (1, .int (nI i)), (2, .int (nI t))] dX4_found_5 rfl (by decide) rfl ?_
  refine g_aload_n X 0 dX4_found_6 rfl rfl ?_
  refine g_ifnonnull_r X 13 dX4_found_7 (by decide) ?_
  refine g_aload_n X 0 dX4_found_13 rfl rfl ?_
  refine g_get X 9 i (cx9 ⟨by omega, by omega⟩) rfl 3 (by decide) hiX2 (by decide +kernel) rfl rfl dX4_found_14 ?_
  refine g_place X 2 (by decide) "MISSED" rfl (by decide +kernel) dX4_found_17 ?_
  refine g_acmp_eq X 26 dX4_found_20 (by decide) (plI X.2.2.2 (by omega) (by omega)) (fun c_1 => ?_) (fun c_1 => ?_)
  · refine g_aload_n X 1 dX4_found_26 rfl rfl ?_
    refine g_iload_n X 3 dX4_found_27 rfl rfl ?_
    refine g_callDV1 (n := 1) X 0 0 [.int (nI t)] cx0 rfl (c_isTray ((nI t))) gX4_found_X4_isTray rfl ⟨rfl, rfl⟩ (by decide +kernel) ⟨by decide, by decide⟩ rfl (Nat.le_of_ble_eq_true rfl) dX4_found_28 ⟨Nat.zero_le _, Nat.zero_le _⟩ _ rfl ?_
    refine g_if_ne X 44 dX4_found_31 (by decide) (bN_eq0) (fun c_2 => ?_) (fun c_2 => ?_)
    · have c_2 := Decidable.of_not_not c_2
      refine g_aload_n X 0 dX4_found_44 rfl rfl ?_
      refine g_get X 9 i (cx9 ⟨by omega, by omega⟩) rfl 4 (by decide) hiX2 (by decide +kernel) rfl rfl dX4_found_45 ?_
      refine g_iload_n X 3 dX4_found_48 rfl rfl ?_
      refine g_icmp_eq X 54 dX4_found_49 (by decide) (nI_eq (by omega) (by omega)) (fun c_3 => ?_) (fun c_3 => ?_)
      · exact absurd c_3 ho
      · refine g_iconst X (v := nI 0) dX4_found_52 (by decide) ?_
        exact g_iret X rfl dX4_found_53 ⟨rfl, rfl, rfl⟩
    · exact absurd (inR_nI ht (by omega)) c_2
  · exact absurd hp c_1

set_option maxRecDepth 100000 in
set_option maxHeartbeats 4000000 in
/-- found -/
theorem c_found_1 {l : Launch} {D : va_G} {ta : Nat → ClassId} {pl : Nat → Nat} {bs : Nat} {al : Ad} {Z : Wo} {u : St} (i t : Nat) (hI : Iv u)(hi1 : 1 ≤ i) (hi2 : i ≤ u 2 0)(hp : u 23 i = 2) (ht : t < u 0 0) (ho : u 24 i = t) : GD l D ta pl bs yX4_found wsX4_found (rmF 1 21) [.ref (al 0 0), .int (nI i), .int (nI t)] al (mC Z ta pl al u) (some (.int (nI 1))) (mC Z ta pl al (st u 23 i 1)) := by
  refine GM.of (by decide) rfl (Nat.le_of_ble_eq_true rfl) ?_
  intro p e s m args below meth c X hnm
  have hiX2 : ∀ w ∈ u_ws RX2 TX2 8, w ∈ wsX4_found := by decide +kernel
  obtain ⟨⟨h1, h2, h7, hN, h30, h51, h52⟩, hI2, hI3, -, hI5, hI6, hI7⟩ := id hI
  obtain ⟨hp1, hp2, hp3, hp4, hp5, -⟩ := hI2 i hi1 hi2
  refine g_lv (lv' := [(0, .ref (al 0 0)), (1, .int (nI i)), (2, .int (nI t))]) [0, 1, 2] rfl ?_
  refine g_aload_n X 0 dX4_found_0 rfl rfl ?_
  refine g_iload_n X 1 dX4_found_1 rfl rfl ?_
  refine g_callDV1 (n := 1) X 0 0 [.int (nI i)] cx0 rfl (c_itemNumbered_1 i (by omega) (by omega) (by omega) (by have := (hI6 (i - 1)).2 (by omega); omega)) gX4_found_X4_itemNumbered rfl ⟨rfl, rfl⟩ (by decide +kernel) ⟨by decide, by decide⟩ rfl (Nat.le_of_ble_eq_true rfl) dX4_found_2 ⟨Nat.zero_le _, Nat.zero_le _⟩ _ rfl ?_
  refine g_astore_n X [(3, .ref (al 9 i)), (0, .ref (al 0 0)), (1, .int (nI i)), (2, .int (nI t))] dX4_found_5 rfl (by decide) rfl ?_
  refine g_aload_n X 0 dX4_found_6 rfl rfl ?_
  refine g_ifnonnull_r X 13 dX4_found_7 (by decide) ?_
  refine g_aload_n X 0 dX4_found_13 rfl rfl ?_
  refine g_get X 9 i (cx9 ⟨by omega, by omega⟩) rfl 3 (by decide) hiX2 (by decide +kernel) rfl rfl dX4_found_14 ?_
  refine g_place X 2 (by decide) "MISSED" rfl (by decide +kernel) dX4_found_17 ?_
  refine g_acmp_eq X 26 dX4_found_20 (by decide) (plI X.2.2.2 (by omega) (by omega)) (fun c_1 => ?_) (fun c_1 => ?_)
  · refine g_aload_n X 1 dX4_found_26 rfl rfl ?_
    refine g_iload_n X 3 dX4_found_27 rfl rfl ?_
    refine g_callDV1 (n := 1) X 0 0 [.int (nI t)] cx0 rfl (c_isTray ((nI t))) gX4_found_X4_isTray rfl ⟨rfl, rfl⟩ (by decide +kernel) ⟨by decide, by decide⟩ rfl (Nat.le_of_ble_eq_true rfl) dX4_found_28 ⟨Nat.zero_le _, Nat.zero_le _⟩ _ rfl ?_
    refine g_if_ne X 44 dX4_found_31 (by decide) (bN_eq0) (fun c_2 => ?_) (fun c_2 => ?_)
    · have c_2 := Decidable.of_not_not c_2
      refine g_aload_n X 0 dX4_found_44 rfl rfl ?_
      refine g_get X 9 i (cx9 ⟨by omega, by omega⟩) rfl 4 (by decide) hiX2 (by decide +kernel) rfl rfl dX4_found_45 ?_
      refine g_iload_n X 3 dX4_found_48 rfl rfl ?_
      refine g_icmp_eq X 54 dX4_found_49 (by decide) (nI_eq (by omega) (by omega)) (fun c_3 => ?_) (fun c_3 => ?_)
      · refine g_aload_n X 0 dX4_found_54 rfl rfl ?_
        refine g_place X 1 (by decide) "CARRIED" rfl (by decide +kernel) dX4_found_55 ?_
        refine g_put X tyX2 tyX2_ok nmX2 9 i (cx9 ⟨by omega, by omega⟩) rfl 3 (by decide) hiX2 (by decide +kernel) rfl rfl (ty := .object "LoopSorter$Place") (by decide +kernel) rfl rfl (Nat.le_of_ble_eq_true rfl) _ (up_place ⟨by omega, by omega⟩) dX4_found_58 ?_
        generalize hu_4 : st u 23 i 1 = u_4
        have k0u_4 : u_4 0 0 = u 0 0 := by rw [← hu_4]; first | rfl | exact st_nf (by omega)
        have k30u_4 : u_4 30 0 = u 30 0 := by rw [← hu_4]; first | rfl | exact st_nf (by omega)
        refine g_iconst X (v := nI 1) dX4_found_61 (by decide) ?_
        exact g_iret X rfl dX4_found_62 ⟨rfl, rfl, by subst hu_4; rfl⟩
      · exact absurd ho c_3
    · exact absurd (inR_nI ht (by omega)) c_2
  · exact absurd hp c_1

set_option maxRecDepth 100000 in
set_option maxHeartbeats 4000000 in
/-- tray -/
theorem c_tray_1 {l : Launch} {D : va_G} {ta : Nat → ClassId} {pl : Nat → Nat} {bs : Nat} {al : Ad} {Z : Wo} {u : St} (t : Nat) (hI : Iv u)(ht : t < u 0 0) : GD l D ta pl bs yX4_tray wsX4_tray (rmF 1 21) [.ref (al 0 0), .int (nI t)] al (mC Z ta pl al u) (some (.int (nI (u 8 t)))) (mC Z ta pl al u) := by
  refine GM.of (by decide) rfl (Nat.le_of_ble_eq_true rfl) ?_
  intro p e s m args below meth c X hnm
  have hiX2 : ∀ w ∈ u_ws RX2 TX2 8, w ∈ wsX4_tray := by decide +kernel
  have hiX4 : ∀ w ∈ u_ws RX4 TX4 13, w ∈ wsX4_tray := by decide +kernel
  obtain ⟨⟨h1, h2, h7, hN, h30, h51, h52⟩, hI2, hI3, -, hI5, hI6, hI7⟩ := id hI
  have ht3 := (hI3 t).1
  refine g_lv (lv' := [(0, .ref (al 0 0)), (1, .int (nI t))]) [0, 1] rfl ?_
  refine g_aload_n X 0 dX4_tray_0 rfl rfl ?_
  refine g_iload_n X 1 dX4_tray_1 rfl rfl ?_
  refine g_callDV1 (n := 1) X 0 0 [.int (nI t)] cx0 rfl (c_isTray ((nI t))) gX4_tray_X4_isTray rfl ⟨rfl, rfl⟩ (by decide +kernel) ⟨by decide, by decide⟩ rfl (Nat.le_of_ble_eq_true rfl) dX4_tray_2 ⟨Nat.zero_le _, Nat.zero_le _⟩ _ rfl ?_
  refine g_if_ne X 18 dX4_tray_5 (by decide) (bN_eq0) (fun c_1 => ?_) (fun c_1 => ?_)
  · have c_1 := Decidable.of_not_not c_1
    refine g_aload_n X 0 dX4_tray_18 rfl rfl ?_
    refine g_get X 0 0 cx0 rfl 2 (by decide) hiX4 (by decide +kernel) rfl rfl dX4_tray_19 ?_
    refine g_iload_n X 1 dX4_tray_22 rfl rfl ?_
    by_cases b_2 : u 8 t = 0
    · refine g_aald0 X 1 0 cx1 t (by omega) (by omega) (rI_v0 b_2) dX4_tray_23 ?_
      refine g_astore_nN X [(2, .null), (0, .ref (al 0 0)), (1, .int (nI t))] dX4_tray_24 rfl (by decide) rfl ?_
      refine g_aload_nN X 0 dX4_tray_25 rfl rfl ?_
      refine g_ifnonnull_n X dX4_tray_26 ?_
      refine g_iconst X (v := nI 0) dX4_tray_29 (by decide) ?_
      refine g_goto X 37 dX4_tray_30 (by decide) ?_
      exact g_iret X rfl dX4_tray_37 ⟨by rw [b_2], rfl, rfl⟩
    · refine g_aald0 X 1 0 cx1 t (by omega) (by omega) (rI_vp b_2) dX4_tray_23 ?_
      refine g_astore_n X [(2, .ref (al 9 (u 8 t))), (0, .ref (al 0 0)), (1, .int (nI t))] dX4_tray_24 rfl (by decide) rfl ?_
      refine g_aload_n X 0 dX4_tray_25 rfl rfl ?_
      refine g_ifnonnull_r X 33 dX4_tray_26 (by decide) ?_
      refine g_aload_n X 0 dX4_tray_33 rfl rfl ?_
      refine g_get X 9 (u 8 t) (cx9 ⟨by omega, by omega⟩) rfl 0 (by decide) hiX2 (by decide +kernel) rfl rfl dX4_tray_34 ?_
      exact g_iret X rfl dX4_tray_37 ⟨rfl, rfl, rfl⟩
  · exact absurd (inR_nI ht (by omega)) c_1

set_option maxRecDepth 100000 in
set_option maxHeartbeats 4000000 in
/-- induct -/
theorem c_induct_u {l : Launch} {D : va_G} {ta : Nat → ClassId} {pl : Nat → Nat} {bs : Nat} {al : Ad} {Z : Wo} {u : St} (x y z : Int32) (h : ¬ (inR x 4 ∧ inR z 16)) : GD l D ta pl bs yX4_induct wsX4_induct (rmF 1 20) [.ref (al 0 0), .int x, .int y, .int z] al (mC Z ta pl al u) (some (.int (-11))) (mC Z ta pl al u) := by
  refine GM.of (by decide) rfl (Nat.le_of_ble_eq_true rfl) ?_
  intro p e s m args below meth c X hnm
  refine g_lv (lv' := [(0, .ref (al 0 0)), (1, .int x), (2, .int y), (3, .int z)]) [0, 1, 2, 3] rfl ?_
  refine g_iload_n X 1 dX4_induct_0 rfl rfl ?_
  refine g_callDS1 (n := 1) X [.int x] (c_isInduct x) gX4_induct_X4_isInduct rfl ⟨rfl, rfl⟩ (by decide +kernel) ⟨by decide, by decide⟩ rfl (Nat.le_of_ble_eq_true rfl) dX4_induct_1 ⟨Nat.zero_le _, Nat.zero_le _⟩ _ rfl ?_
  refine g_if_eq X 14 dX4_induct_4 (by decide) (bN_eq0) (fun c_1 => ?_) (fun c_1 => ?_)
  · refine g_bipush X (v := -11) dX4_induct_14 (by decide) ?_
    exact g_iret X rfl dX4_induct_16 ⟨rfl, rfl, rfl⟩
  · have c_1 := Decidable.of_not_not c_1
    refine g_iload_n X 3 dX4_induct_7 rfl rfl ?_
    refine g_callDS1 (n := 1) X [.int z] (c_isChute z) gX4_induct_X4_isChute rfl ⟨rfl, rfl⟩ (by decide +kernel) ⟨by decide, by decide⟩ rfl (Nat.le_of_ble_eq_true rfl) dX4_induct_8 ⟨Nat.zero_le _, Nat.zero_le _⟩ _ rfl ?_
    refine g_if_ne X 17 dX4_induct_11 (by decide) (bN_eq0) (fun c_2 => ?_) (fun c_2 => ?_)
    · have c_2 := Decidable.of_not_not c_2
      exact absurd ⟨c_1, c_2⟩ h
    · refine g_bipush X (v := -11) dX4_induct_14 (by decide) ?_
      exact g_iret X rfl dX4_induct_16 ⟨rfl, rfl, rfl⟩

set_option maxRecDepth 100000 in
set_option maxHeartbeats 4000000 in
/-- induct -/
theorem c_induct_o {l : Launch} {D : va_G} {ta : Nat → ClassId} {pl : Nat → Nat} {bs : Nat} {al : Ad} {Z : Wo} {u : St} (x y z : Int32) (h : inR x 4 ∧ inR z 16) (hy : y < nI 1 ∨ ¬ y ≤ nI 2) : GD l D ta pl bs yX4_induct wsX4_induct (rmF 1 20) [.ref (al 0 0), .int x, .int y, .int z] al (mC Z ta pl al u) (some (.int (-12))) (mC Z ta pl al u) := by
  refine GM.of (by decide) rfl (Nat.le_of_ble_eq_true rfl) ?_
  intro p e s m args below meth c X hnm
  refine g_lv (lv' := [(0, .ref (al 0 0)), (1, .int x), (2, .int y), (3, .int z)]) [0, 1, 2, 3] rfl ?_
  refine g_iload_n X 1 dX4_induct_0 rfl rfl ?_
  refine g_callDS1 (n := 1) X [.int x] (c_isInduct x) gX4_induct_X4_isInduct rfl ⟨rfl, rfl⟩ (by decide +kernel) ⟨by decide, by decide⟩ rfl (Nat.le_of_ble_eq_true rfl) dX4_induct_1 ⟨Nat.zero_le _, Nat.zero_le _⟩ _ rfl ?_
  refine g_if_eq X 14 dX4_induct_4 (by decide) (bN_eq0) (fun c_1 => ?_) (fun c_1 => ?_)
  · exact absurd h.1 c_1
  · have c_1 := Decidable.of_not_not c_1
    refine g_iload_n X 3 dX4_induct_7 rfl rfl ?_
    refine g_callDS1 (n := 1) X [.int z] (c_isChute z) gX4_induct_X4_isChute rfl ⟨rfl, rfl⟩ (by decide +kernel) ⟨by decide, by decide⟩ rfl (Nat.le_of_ble_eq_true rfl) dX4_induct_8 ⟨Nat.zero_le _, Nat.zero_le _⟩ _ rfl ?_
    refine g_if_ne X 17 dX4_induct_11 (by decide) (bN_eq0) (fun c_2 => ?_) (fun c_2 => ?_)
    · have c_2 := Decidable.of_not_not c_2
      refine g_iload_n X 2 dX4_induct_17 rfl rfl ?_
      refine g_iconst X (v := nI 1) dX4_induct_18 (by decide) ?_
      refine g_icmp_lt X 27 dX4_induct_19 (by decide) (Iff.rfl) (fun c_3 => ?_) (fun c_3 => ?_)
      · refine g_bipush X (v := -12) dX4_induct_27 (by decide) ?_
        exact g_iret X rfl dX4_induct_29 ⟨rfl, rfl, rfl⟩
      · refine g_iload_n X 2 dX4_induct_22 rfl rfl ?_
        refine g_iconst X (v := nI 2) dX4_induct_23 (by decide) ?_
        refine g_icmp_le X 30 dX4_induct_24 (by decide) (Iff.rfl) (fun c_4 => ?_) (fun c_4 => ?_)
        · exact hy.elim (fun q => absurd q c_3) (fun q => absurd c_4 q)
        · refine g_bipush X (v := -12) dX4_induct_27 (by decide) ?_
          exact g_iret X rfl dX4_induct_29 ⟨rfl, rfl, rfl⟩
    · exact absurd h.2 c_2

set_option maxRecDepth 100000 in
set_option maxHeartbeats 4000000 in
/-- induct -/
theorem c_induct_r {l : Launch} {D : va_G} {ta : Nat → ClassId} {pl : Nat → Nat} {bs : Nat} {al : Ad} {Z : Wo} {u : St} (x y z : Int32) (h : inR x 4 ∧ inR z 16) (hy : ¬ y < nI 1 ∧ y ≤ nI 2) (hr : 400 ≤ u 2 0) (hr2 : u 2 0 ≤ 400) : GD l D ta pl bs yX4_induct wsX4_induct (rmF 1 20) [.ref (al 0 0), .int x, .int y, .int z] al (mC Z ta pl al u) (some (.int (-14))) (mC Z ta pl al u) := by
  refine GM.of (by decide) rfl (Nat.le_of_ble_eq_true rfl) ?_
  intro p e s m args below meth c X hnm
  have hiX4 : ∀ w ∈ u_ws RX4 TX4 13, w ∈ wsX4_induct := by decide +kernel
  refine g_lv (lv' := [(0, .ref (al 0 0)), (1, .int x), (2, .int y), (3, .int z)]) [0, 1, 2, 3] rfl ?_
  refine g_iload_n X 1 dX4_induct_0 rfl rfl ?_
  refine g_callDS1 (n := 1) X [.int x] (c_isInduct x) gX4_induct_X4_isInduct rfl ⟨rfl, rfl⟩ (by decide +kernel) ⟨by decide, by decide⟩ rfl (Nat.le_of_ble_eq_true rfl) dX4_induct_1 ⟨Nat.zero_le _, Nat.zero_le _⟩ _ rfl ?_
  refine g_if_eq X 14 dX4_induct_4 (by decide) (bN_eq0) (fun c_1 => ?_) (fun c_1 => ?_)
  · exact absurd h.1 c_1
  · have c_1 := Decidable.of_not_not c_1
    refine g_iload_n X 3 dX4_induct_7 rfl rfl ?_
    refine g_callDS1 (n := 1) X [.int z] (c_isChute z) gX4_induct_X4_isChute rfl ⟨rfl, rfl⟩ (by decide +kernel) ⟨by decide, by decide⟩ rfl (Nat.le_of_ble_eq_true rfl) dX4_induct_8 ⟨Nat.zero_le _, Nat.zero_le _⟩ _ rfl ?_
    refine g_if_ne X 17 dX4_induct_11 (by decide) (bN_eq0) (fun c_2 => ?_) (fun c_2 => ?_)
    · have c_2 := Decidable.of_not_not c_2
      refine g_iload_n X 2 dX4_induct_17 rfl rfl ?_
      refine g_iconst X (v := nI 1) dX4_induct_18 (by decide) ?_
      refine g_icmp_lt X 27 dX4_induct_19 (by decide) (Iff.rfl) (fun c_3 => ?_) (fun c_3 => ?_)
      · exact absurd c_3 hy.1
      · refine g_iload_n X 2 dX4_induct_22 rfl rfl ?_
        refine g_iconst X (v := nI 2) dX4_induct_23 (by decide) ?_
        refine g_icmp_le X 30 dX4_induct_24 (by decide) (Iff.rfl) (fun c_4 => ?_) (fun c_4 => ?_)
        · refine g_aload_n X 0 dX4_induct_30 rfl rfl ?_
          refine g_get X 0 0 cx0 rfl 7 (by decide) hiX4 (by decide +kernel) rfl rfl dX4_induct_31 ?_
          refine g_sipush X (v := nI 400) dX4_induct_34 (by decide) ?_
          refine g_icmp_lt X 43 dX4_induct_37 (by decide) (nI_ltI (by omega) (by omega)) (fun c_5 => ?_) (fun c_5 => ?_)
          · exact absurd c_5 (by omega)
          · refine g_bipush X (v := -14) dX4_induct_40 (by decide) ?_
            exact g_iret X rfl dX4_induct_42 ⟨rfl, rfl, rfl⟩
        · exact absurd hy.2 c_4
    · exact absurd h.2 c_2

set_option maxRecDepth 100000 in
set_option maxHeartbeats 4000000 in
/-- induct -/
theorem c_induct_0 {l : Launch} {D : va_G} {ta : Nat → ClassId} {pl : Nat → Nat} {bs : Nat} {al : Ad} {Z : Wo} {u : St} (j : Nat) (y z : Int32) (h : inR (nI j) 4 ∧ inR z 16) (hj : j < 4) (hy : ¬ y < nI 1 ∧ y ≤ nI 2) (hr : u 2 0 < 400) (hw : u 12 (j + 1) = 8) : GD l D ta pl bs yX4_induct wsX4_induct (rmF 1 20) [.ref (al 0 0), .int (nI j), .int y, .int z] al (mC Z ta pl al u) (some (.int (nI 0))) (mC Z ta pl al u) := by
  refine GM.of (by decide) rfl (Nat.le_of_ble_eq_true rfl) ?_
  intro p e s m args below meth c X hnm
  have hiX4 : ∀ w ∈ u_ws RX4 TX4 13, w ∈ wsX4_induct := by decide +kernel
  refine g_lv (lv' := [(0, .ref (al 0 0)), (1, .int (nI j)), (2, .int y), (3, .int z)]) [0, 1, 2, 3] rfl ?_
  refine g_iload_n X 1 dX4_induct_0 rfl rfl ?_
  refine g_callDS1 (n := 1) X [.int (nI j)] (c_isInduct ((nI j))) gX4_induct_X4_isInduct rfl ⟨rfl, rfl⟩ (by decide +kernel) ⟨by decide, by decide⟩ rfl (Nat.le_of_ble_eq_true rfl) dX4_induct_1 ⟨Nat.zero_le _, Nat.zero_le _⟩ _ rfl ?_
  refine g_if_eq X 14 dX4_induct_4 (by decide) (bN_eq0) (fun c_1 => ?_) (fun c_1 => ?_)
  · exact absurd h.1 c_1
  · have c_1 := Decidable.of_not_not c_1
    refine g_iload_n X 3 dX4_induct_7 rfl rfl ?_
    refine g_callDS1 (n := 1) X [.int z] (c_isChute z) gX4_induct_X4_isChute rfl ⟨rfl, rfl⟩ (by decide +kernel) ⟨by decide, by decide⟩ rfl (Nat.le_of_ble_eq_true rfl) dX4_induct_8 ⟨Nat.zero_le _, Nat.zero_le _⟩ _ rfl ?_
    refine g_if_ne X 17 dX4_induct_11 (by decide) (bN_eq0) (fun c_2 => ?_) (fun c_2 => ?_)
    · have c_2 := Decidable.of_not_not c_2
      refine g_iload_n X 2 dX4_induct_17 rfl rfl ?_
      refine g_iconst X (v := nI 1) dX4_induct_18 (by decide) ?_
      refine g_icmp_lt X 27 dX4_induct_19 (by decide) (Iff.rfl) (fun c_3 => ?_) (fun c_3 => ?_)
      · exact absurd c_3 hy.1
      · refine g_iload_n X 2 dX4_induct_22 rfl rfl ?_
        refine g_iconst X (v := nI 2) dX4_induct_23 (by decide) ?_
        refine g_icmp_le X 30 dX4_induct_24 (by decide) (Iff.rfl) (fun c_4 => ?_) (fun c_4 => ?_)
        · refine g_aload_n X 0 dX4_induct_30 rfl rfl ?_
          refine g_get X 0 0 cx0 rfl 7 (by decide) hiX4 (by decide +kernel) rfl rfl dX4_induct_31 ?_
          refine g_sipush X (v := nI 400) dX4_induct_34 (by decide) ?_
          refine g_icmp_lt X 43 dX4_induct_37 (by decide) (nI_ltI (by omega) (by omega)) (fun c_5 => ?_) (fun c_5 => ?_)
          · refine g_aload_n X 0 dX4_induct_43 rfl rfl ?_
            refine g_get X 0 0 cx0 rfl 3 (by decide) hiX4 (by decide +kernel) rfl rfl dX4_induct_44 ?_
            refine g_iload_n X 1 dX4_induct_47 rfl rfl ?_
            refine g_aald1 X 2 0 cx2 j (by omega) (by omega) (ar2 (by omega)) dX4_induct_48 ?_
            refine g_callDV1 (n := 0) X 3 (j + 1) [] (cx3 ⟨by omega, by omega⟩) rfl (c_isRowFull (j + 1) ⟨by omega, by omega⟩ (by omega)) gX4_induct_X1_isRowFull rfl ⟨rfl, rfl⟩ (by decide +kernel) ⟨by decide, by decide⟩ rfl (Nat.le_of_ble_eq_true rfl) dX4_induct_49 ⟨Nat.zero_le _, Nat.zero_le _⟩ _ rfl ?_
            refine g_if_eq X 57 dX4_induct_52 (by decide) (bN_eq0) (fun c_6 => ?_) (fun c_6 => ?_)
            · exact absurd (by omega) c_6
            · have c_6 := Decidable.of_not_not c_6
              refine g_iconst X (v := nI 0) dX4_induct_55 (by decide) ?_
              exact g_iret X rfl dX4_induct_56 ⟨rfl, rfl, rfl⟩
          · exact absurd hr c_5
        · exact absurd hy.2 c_4
    · exact absurd h.2 c_2
end
section
/-! THE MODEL, as functions of its state. v 0 thrown, 1 trays, 2 most, 3 speed, 4 time, 5 items, 6 gone; 11 number, 12 load, 13 length, 14 chute, 15 where, 16 own, 17 rounds, 18 at, 19 shares, 20 lying, 21 shut, 22 goneItem, 23 goneChute, 24 goneTime, 25 had -/
abbrev waitsAt (v : St) (k i : Nat) : Prop := nI (v 15 i) = 0 ∧ nI (v 18 i) = nI k
def mW (v : St) (k : Nat) : Nat → Nat
  | 0 => 0
  | n + 1 => if waitsAt v k (n + 1) then mW v k n + 1 else mW v k n
theorem mW_le {v : St} {k : Nat} : ∀ n, mW v k n ≤ n := by
  intro n
  induction n with
  | zero => exact Nat.le_refl _
  | succ n ih => unfold mW; split <;> omega
def mF (v : St) (k : Nat) : Nat → Nat
  | 0 => 0
  | j + 1 => if waitsAt v k (v 5 0 - j) then v 5 0 - j else mF v k j
theorem mF_le {v : St} {k : Nat} : ∀ j, mF v k j ≤ v 5 0 := by
  intro j
  induction j with
  | zero => exact Nat.zero_le _
  | succ j ih => unfold mF; split <;> omega
def mvD (v : St) : Nat → St
  | 0 => v
  | j + 1 => st (st (mvD v j) 11 (v 1 0 - 1 - j) (mvD v j 11 (v 1 0 - 1 - j - 1))) 12 (v 1 0 - 1 - j) (st (mvD v j) 11 (v 1 0 - 1 - j) (mvD v j 11 (v 1 0 - 1 - j - 1)) 12 (v 1 0 - 1 - j - 1))
theorem mvD_k {v : St} {f i : Nat} (h1 : f ≠ 11) (h2 : f ≠ 12) : ∀ j, mvD v j f i = v f i := by
  intro j
  induction j with
  | zero => rfl
  | succ j ih => show st _ _ _ _ f i = _; rw [st_nf h2, st_nf h1, ih]
def mvA (v : St) : St := st (st (mvD v (v 1 0 - 1)) 11 0 (v 11 (v 1 0 - 1))) 12 0 (v 12 (v 1 0 - 1))
theorem mvA_k {v : St} {f i : Nat} (h1 : f ≠ 11) (h2 : f ≠ 12) : mvA v f i = v f i := by
  unfold mvA; rw [st_nf h2, st_nf h1, mvD_k h1 h2]
def mB (v : St) (p : Nat) : Nat := if p = 0 then v 1 0 - 1 else p - 1
theorem mB_lt {v : St} {p : Nat} (h1 : 1 ≤ v 1 0) (h : p < v 1 0) : mB v p < v 1 0 := by unfold mB; split <;> omega
abbrev mRoom (v : St) (c : Nat) : Prop := c = 15 ∨ (nI (v 21 c) = 0 ∧ ¬ nI 10 ≤ nI (v 20 c))
def setLd (v : St) (i p x : Nat) : St := if nI (st v 12 p x 13 i) = nI 2 then st (st v 12 p x) 12 (mB (st v 12 p x) p) x else st v 12 p x
theorem setLd_k {v : St} {i p x f j : Nat} (h : f ≠ 12) : setLd v i p x f j = v f j := by
  unfold setLd; split
  · rw [st_nf h, st_nf h]
  · rw [st_nf h]
def mOut (v : St) (i p c : Nat) : St :=
  let w2 := setLd v i p 0
  let w3 := st w2 15 i 3
  let w4 := st w3 20 c (w3 20 c + 1)
  let w5 := st w4 22 (w4 6 0) i
  let w6 := st w5 23 (w5 6 0) c
  let w7 := st w6 24 (w6 6 0) (w6 4 0)
  st w7 6 0 (w7 6 0 + 1)
theorem mOut_k {v : St} {i p c f j : Nat} (h : f = 0 ∨ f = 1 ∨ f = 2 ∨ f = 3 ∨ f = 4 ∨ f = 5) : mOut v i p c f j = v f j := by
  unfold mOut
  rcases h with rfl | rfl | rfl | rfl | rfl | rfl <;> simp [st, setLd_k]
abbrev mPos (v : St) (c : Nat) : Nat := (c * v 1 0 + v 1 0 / 2) / 16
abbrev mHere (v : St) (c : Nat) : Prop := v 12 (mPos v c) ≠ 0 ∧ nI (v 16 (v 12 (mPos v c))) = nI (v 11 (mPos v c)) ∧ nI (v 15 (v 12 (mPos v c))) = nI 1
abbrev mWants (v : St) (c : Nat) : Prop := nI (v 14 (v 12 (mPos v c))) = nI c ∨ (c = 15 ∧ ¬ nI (v 17 (v 12 (mPos v c))) < nI (v 2 0))
def mPass (v : St) (c : Nat) : St :=
  if mHere v c then (if mWants v c ∧ mRoom v c then mOut v (v 12 (mPos v c)) (mPos v c) c else if nI (v 14 (v 12 (mPos v c))) = nI c then st v 17 (v 12 (mPos v c)) (v 17 (v 12 (mPos v c)) + 1) else v) else v
theorem mPass_0 {v : St} {c : Nat} (h : ¬ mHere v c) : v = mPass v c := by unfold mPass; rw [if_neg h]
theorem mPass_1 {v : St} {c : Nat} (h : mHere v c) (h1 : mWants v c) (h2 : mRoom v c) : mOut v (v 12 (mPos v c)) (mPos v c) c = mPass v c := by unfold mPass; rw [if_pos h, if_pos ⟨h1, h2⟩]
theorem mPass_2 {v : St} {c : Nat} (h : mHere v c) (h1 : ¬ (mWants v c ∧ mRoom v c)) (h2 : nI (v 14 (v 12 (mPos v c))) = nI c) : st v 17 (v 12 (mPos v c)) (v 17 (v 12 (mPos v c)) + 1) = mPass v c := by unfold mPass; rw [if_pos h, if_neg h1, if_pos h2]
theorem mPass_3 {v : St} {c : Nat} (h : mHere v c) (h1 : ¬ (mWants v c ∧ mRoom v c)) (h2 : ¬ nI (v 14 (v 12 (mPos v c))) = nI c) : v = mPass v c := by unfold mPass; rw [if_pos h, if_neg h1, if_neg h2]
theorem mPass_k {v : St} {c f j : Nat} (h : f = 0 ∨ f = 1 ∨ f = 2 ∨ f = 3 ∨ f = 4 ∨ f = 5) : mPass v c f j = v f j := by
  unfold mPass
  split
  · split
    · exact mOut_k h
    · split
      · exact st_nf (by omega)
      · rfl
  · rfl
def mPN : Nat → St → St
  | 0, v => v
  | n + 1, v => mPass (mPN n v) n
theorem mPN_k {n : Nat} {v : St} {f j : Nat} (h : f = 0 ∨ f = 1 ∨ f = 2 ∨ f = 3 ∨ f = 4 ∨ f = 5) : mPN n v f j = v f j := by
  induction n with
  | zero => rfl
  | succ n ih => show mPass (mPN n v) n f j = _; rw [mPass_k h, ih]
def mMove (v : St) : St := mPN 16 (mvA v)
theorem mMove_k {v : St} {f j : Nat} (h : f = 0 ∨ f = 1 ∨ f = 2 ∨ f = 3 ∨ f = 4 ∨ f = 5) : mMove v f j = v f j := by
  unfold mMove; rw [mPN_k h, mvA_k (by omega) (by omega)]
def mMvN : Nat → St → St
  | 0, v => v
  | n + 1, v => mMove (mMvN n v)
theorem mMvN_k {n : Nat} {v : St} {f j : Nat} (h : f = 0 ∨ f = 1 ∨ f = 2 ∨ f = 3 ∨ f = 4 ∨ f = 5) : mMvN n v f j = v f j := by
  induction n with
  | zero => rfl
  | succ n ih => show mMove (mMvN n v) f j = _; rw [mMove_k h, ih]
abbrev mPosI (v : St) (k : Nat) : Nat := k * v 1 0 / 4
abbrev mFst (v : St) (k : Nat) : Nat := mF v k (v 5 0)
abbrev mCan (v : St) (k : Nat) : Prop := mFst v k ≠ 0 ∧ v 12 (mPosI v k) = 0 ∧ ¬ (nI (v 13 (mFst v k)) = nI 2 ∧ (v 1 0 = 1 ∨ v 12 (mB v (mPosI v k)) ≠ 0))
def mPut (v : St) (k : Nat) : St :=
  if mCan v k then
    let w2 := setLd v (mFst v k) (mPosI v k) (mFst v k)
    let w3 := st w2 16 (mFst v k) (w2 11 (mPosI v k))
    let w4 := st w3 15 (mFst v k) 1
    st w4 19 k (w4 19 k + 1)
  else v
theorem mPut_k {v : St} {k f j : Nat} (h : f = 0 ∨ f = 1 ∨ f = 2 ∨ f = 3 ∨ f = 4 ∨ f = 5 ∨ f = 25) : mPut v k f j = v f j := by
  unfold mPut
  split
  · rcases h with rfl | rfl | rfl | rfl | rfl | rfl | rfl <;> simp [st, setLd_k]
  · rfl
def mNx (v : St) : Nat → Nat
  | 0 => 0
  | j + 1 => if nI (v 25 j) = 0 ∧ (mNx v j = 0 ∨ lN (v 19 j) < lN (v 19 (mNx v j - 1))) then j + 1 else mNx v j
theorem mNx_le {v : St} : ∀ k, mNx v k ≤ k := by
  intro k
  induction k with
  | zero => exact Nat.le_refl _
  | succ k ih => unfold mNx; split <;> omega
def rM (n : Nat) : Int32 := if n = 0 then -1 else nI (n - 1)
theorem rM_0 {n : Nat} (h : n = 0) : rM n = -1 := if_pos h
theorem rM_p {n : Nat} (h : n ≠ 0) : rM n = nI (n - 1) := if_neg h
def mClr : Nat → St → St
  | 0, v => v
  | k + 1, v => st (mClr k v) 25 k 0
def mTurn (v : St) : St := mPut (st v 25 (mNx v 4 - 1) 1) (mNx v 4 - 1)
def mTuN : Nat → St → St
  | 0, v => v
  | k + 1, v => mTurn (mTuN k v)
def mTake (v : St) : St := mTuN 4 (mClr 4 v)
def mRun (v : St) : St := mTake (st (mMvN (v 3 0) v) 4 0 (mMvN (v 3 0) v 4 0 + 1))
def mRuN : Nat → St → St
  | 0, v => v
  | n + 1, v => mRun (mRuN n v)
/-! CLASS AND MODEL SIDE BY SIDE -/
def Sm1 (u v : St) : Prop := v 1 0 = u 0 0 ∧ v 2 0 = u 1 0 ∧ v 5 0 = u 2 0 ∧ v 6 0 = u 3 0 ∧ v 3 0 = u 5 0 ∧ v 4 0 = u 6 0
def Sm2 (u v : St) : Prop := (∀ p, p < u 0 0 → v 11 p = tA u p ∧ v 12 p = u 8 (tA u p)) ∧ ∀ p, v 12 p ≤ u 2 0
def Sm3 (u v : St) : Prop := (∀ i, 1 ≤ i → i ≤ u 2 0 → v 13 i = u 21 i ∧ v 14 i = u 22 i ∧ v 15 i = u 23 i ∧ v 16 i = u 24 i ∧ v 17 i = u 25 i ∧ v 18 i + 1 = u 31 i) ∧ ∀ i, u 2 0 < i → v 15 i = 0 ∧ v 16 i = 0 ∧ v 17 i = 0
def Sm4 (u v : St) : Prop := (∀ k, k < 4 → v 19 k = u 13 (k + 1)) ∧ ∀ c, c < 16 → v 20 c = u 18 c ∧ v 21 c = u 19 c
def Sm5 (u v : St) : Prop := ∀ j, j < u 3 0 → v 22 j = u 10 j ∧ v 23 j = u 26 (u 10 j) ∧ v 24 j = u 27 (u 10 j)
def Sim (u v : St) : Prop := Sm1 u v ∧ Sm2 u v ∧ Sm3 u v ∧ Sm4 u v ∧ Sm5 u v
def Jv (v : St) : Prop := ∃ u, Iv u ∧ Sim u v
/-- what the walk of the model needs -/
theorem Jv.w {v : St} (h : Jv v) : 1 ≤ v 1 0 ∧ v 1 0 ≤ 200 ∧ v 5 0 ≤ 400 ∧ 1 ≤ v 3 0 ∧ v 3 0 ≤ 5 ∧ (∀ p, v 12 p ≤ v 5 0) ∧ v 6 0 ≤ 400 := by
  obtain ⟨u, hI, ⟨e1, e2, e3, e4, e5, e6⟩, ⟨-, h2⟩, -⟩ := h
  have h3 := hI.le3
  obtain ⟨⟨a1, a2, a3, a4, a5, a6, a7⟩, -⟩ := hI
  rw [e1, e3, e5, e4]
  exact ⟨a1, a2, a4, a6, a7, h2, h3⟩
theorem Jv.go {v : St} (h : Jv v) {i : Nat} (h1 : i ≠ 0) (h2 : i ≤ v 5 0) (h3 : nI (v 15 i) = nI 1) : v 6 0 < 400 := by
  obtain ⟨u, hI, ⟨e1, e2, e3, e4, e5, e6⟩, -, ⟨h5, -⟩, -⟩ := h
  have e := (h5 i (by omega) (by omega)).2.2.1
  have hlt := (hI.2.1 i (by omega) (by omega)).1
  rw [e, nI_eq (by omega) (by decide)] at h3
  rw [e4]
  exact (hI.carry (by omega) (by omega) h3).2.1
theorem Jv_move {v : St} (h : Jv v) : Jv (mvA v) := sorry
theorem Jv_pass {v : St} (h : Jv v) {c : Nat} (hc : c < 16) : Jv (mPass v c) := sorry
theorem Jv_put {v : St} (h : Jv v) {k : Nat} (hk : k < 4) : Jv (mPut v k) := sorry
theorem Jv_had {v : St} (h : Jv v) {k x : Nat} : Jv (st v 25 k x) := sorry
theorem Jv_time {v : St} (h : Jv v) {x : Nat} : Jv (st v 4 0 x) := sorry
theorem Jv_thrown {v : St} (h : Jv v) {x : Nat} : Jv (st v 0 0 x) := sorry
theorem Jv_PN {v : St} (h : Jv v) : ∀ n, n ≤ 16 → Jv (mPN n v) := by
  intro n
  induction n with
  | zero => intro _; exact h
  | succ n ih => intro hn; exact Jv_pass (ih (by omega)) (by omega)
theorem Jv_mMove {v : St} (h : Jv v) : Jv (mMove v) := Jv_PN (Jv_move h) 16 (Nat.le_refl _)
theorem Jv_MvN {v : St} (h : Jv v) : ∀ n, Jv (mMvN n v) := by
  intro n
  induction n with
  | zero => exact h
  | succ n ih => exact Jv_mMove ih
theorem Jv_Clr {v : St} (h : Jv v) : ∀ n, Jv (mClr n v) := by
  intro n
  induction n with
  | zero => exact h
  | succ n ih => exact Jv_had ih
theorem mNx_ok {v : St} {t : Nat} (ht : t < 4) : mNx (mTuN t (mClr 4 v)) 4 ≠ 0 := sorry
theorem Jv_TuN {v : St} (h : Jv v) : ∀ n, n ≤ 4 → Jv (mTuN n (mClr 4 v)) := by
  intro n
  induction n with
  | zero => intro _; exact Jv_Clr h 4
  | succ n ih =>
    intro hn
    have h1 := mNx_ok (v := v) (t := n) (by omega)
    have h2 := mNx_le (v := mTuN n (mClr 4 v)) 4
    exact Jv_put (Jv_had (ih (by omega))) (by omega)
theorem Jv_take {v : St} (h : Jv v) : Jv (mTake v) := Jv_TuN h 4 (Nat.le_refl _)
theorem Jv_run {v : St} (h : Jv v) : Jv (mRun v) := Jv_take (Jv_time (Jv_MvN h _))
theorem Jv_ruN {v : St} (h : Jv v) : ∀ n, Jv (mRuN n v) := by
  intro n
  induction n with
  | zero => exact h
  | succ n ih => exact Jv_run ih
def mI (v : St) (t : Nat) : Nat → Nat
  | 0 => 0
  | q + 1 => if nI (v 11 q) = nI t then v 12 q else mI v t q
abbrev inB (x : Int32) (a b : Nat) : Prop := ¬ x < nI a ∧ ¬ nI b < x
theorem inB_nI {j a b : Nat} (h1 : a ≤ j) (h2 : j ≤ b) (hb : b < 2 ^ 31) : inB (nI j) a b := ⟨nI_nlt h1 (by omega), nI_nlt h2 hb⟩
def mAdd (v : St) (k y z : Nat) : St :=
  let w1 := st v 5 0 (v 5 0 + 1)
  let w2 := st w1 18 (w1 5 0) k
  let w3 := st w2 13 (w2 5 0) y
  st w3 14 (w3 5 0) z
end
section
set_option maxRecDepth 100000 in
set_option maxHeartbeats 4000000 in
/-- in -/
theorem m_in {l : Launch} {D : va_G} {ta : Nat → ClassId} {pl : Nat → Nat} {bs : Nat} {al : Ad} {Z : Wo} {u : St} (x a b : Int32)  : GD l D ta pl bs yX5_in wsX5_in (rmF 0 0) [.int x, .int a, .int b] al (mM Z ta al u) (some (.int (nI (bN (¬ x < a ∧ ¬ b < x))))) (mM Z ta al u) := by
  refine GM.of (by decide) rfl (Nat.le_of_ble_eq_true rfl) ?_
  intro p e s m args below meth c X hnm
  refine g_lv (lv' := [(0, .int x), (1, .int a), (2, .int b)]) [0, 1, 2] rfl ?_
  refine g_iload_n X 0 dX5_in_0 rfl rfl ?_
  refine g_iload_n X 1 dX5_in_1 rfl rfl ?_
  refine g_icmp_lt X 14 dX5_in_2 (by decide) (Iff.rfl) (fun c_1 => ?_) (fun c_1 => ?_)
  · refine g_iconst X (v := nI 0) dX5_in_14 (by decide) ?_
    exact g_zret X rfl dX5_in_15 (by decide) ⟨congrArg (fun n => some (Value.int (nI n))) (bN_0 (by first | omega | simp [c_1])), rfl, rfl⟩
  · refine g_iload_n X 0 dX5_in_5 rfl rfl ?_
    refine g_iload_n X 2 dX5_in_6 rfl rfl ?_
    refine g_icmp_gt X 14 dX5_in_7 (by decide) (Iff.rfl) (fun c_2 => ?_) (fun c_2 => ?_)
    · refine g_iconst X (v := nI 0) dX5_in_14 (by decide) ?_
      exact g_zret X rfl dX5_in_15 (by decide) ⟨congrArg (fun n => some (Value.int (nI n))) (bN_0 (by first | omega | simp [c_1, c_2])), rfl, rfl⟩
    · refine g_iconst X (v := nI 1) dX5_in_10 (by decide) ?_
      refine g_goto X 15 dX5_in_11 (by decide) ?_
      exact g_zret X rfl dX5_in_15 (by decide) ⟨congrArg (fun n => some (Value.int (nI n))) (bN_1 (by first | omega | simp [c_1, c_2])), rfl, rfl⟩

set_option maxRecDepth 100000 in
set_option maxHeartbeats 4000000 in
/-- the loop of waiting at 4 -/
theorem l_waiting {l : Launch} {D : va_G} {ta : Nat → ClassId} {pl : Nat → Nat} {bs : Nat} {al : Ad} {Z : Wo} {p : Program} {e : Env} {s : State} {m : MethodId} {args : Array Value} {below : List Frame} {meth : Method} {c : Code} {u : St} (X : Cx D ta pl bs 4 p s m args meth c cX5_waiting wsX5_waiting RX5 (some .int)) (k : Nat) (h5 : u 5 0 ≤ 400) : ∀ (n9 i : Nat), i ≤ u 5 0 → u 5 0 + 1 ≤ i + n9 → WW D bs 4 p l e (rmF 0 0) s m args below meth c (QQ D bs below args s 0 0 (fun r al' C' => r = some (.int (nI (mW u k (u 5 0)))) ∧ al' = al ∧ C' = mM Z ta al u)) al (mM Z ta al u) 0 0 4 [(3, .int (nI (i + 1))), (2, .int (nI (mW u k i))), (1, .int (nI k)), (0, .ref (al 10 0))] [] := by
  have hiX5 : ∀ w ∈ u_ws RX5 TX5 22, w ∈ wsX5_waiting := by decide +kernel
  intro n9
  induction n9 with
  | zero => intro i h8 h9; exact absurd h9 (by omega)
  | succ n9 ih =>
    intro i h8 h9
    refine g_iload_n X 0 dX5_waiting_4 rfl rfl ?_
    refine g_aload_n X 3 dX5_waiting_5 rfl rfl ?_
    refine g_get X 10 0 cm10 rfl 7 (by decide) hiX5 (by decide +kernel) rfl rfl dX5_waiting_6 ?_
    refine g_icmp_gt X 45 dX5_waiting_9 (by decide) (nI_ltI (by omega) (by omega)) (fun c_1 => ?_) (fun c_1 => ?_)
    · refine g_iload_n X 1 dX5_waiting_45 rfl rfl ?_
      exact g_iret X rfl dX5_waiting_46 ⟨by have e9 : i = u 5 0 := (by omega); rw [e9], rfl, rfl⟩
    · refine g_aload_n X 3 dX5_waiting_12 rfl rfl ?_
      refine g_get X 10 0 cm10 rfl 10 (by decide) hiX5 (by decide +kernel) rfl rfl dX5_waiting_13 ?_
      refine g_iload_n X 0 dX5_waiting_16 rfl rfl ?_
      refine g_iald X 15 0 cm15 (i + 1) (by omega) (by decide) rfl dX5_waiting_17 ?_
      refine g_if_ne X 37 dX5_waiting_18 (by decide) (Iff.rfl) (fun c_2 => ?_) (fun c_2 => ?_)
      · refine g_iload_n X 1 dX5_waiting_37 rfl rfl ?_
        refine g_istore_n X [(2, .int (nI (mW u k i))), (3, .int (nI (i + 1))), (1, .int (nI k)), (0, .ref (al 10 0))] dX5_waiting_38 rfl (by decide) rfl ?_
        refine g_iinc X 1 [(3, .int (nI (i + 1 + 1))), (2, .int (nI (mW u k i))), (1, .int (nI k)), (0, .ref (al 10 0))] dX5_waiting_39 rfl (nI_inc (by decide)) (by decide) rfl ?_
        refine g_goto X 4 dX5_waiting_42 (by decide) ?_
        refine g_lv [0, 1, 2, 3] rfl ?_
        have q9 := ih (i + 1) (by omega) (by omega)
        rw [show mW u k (i + 1) = mW u k i from by rw [mW, if_neg (fun z => c_2 z.1)]] at q9
        exact q9
      · refine g_aload_n X 3 dX5_waiting_21 rfl rfl ?_
        refine g_get X 10 0 cm10 rfl 13 (by decide) hiX5 (by decide +kernel) rfl rfl dX5_waiting_22 ?_
        refine g_iload_n X 0 dX5_waiting_25 rfl rfl ?_
        refine g_iald X 18 0 cm18 (i + 1) (by omega) (by decide) rfl dX5_waiting_26 ?_
        refine g_iload_n X 2 dX5_waiting_27 rfl rfl ?_
        refine g_icmp_ne X 37 dX5_waiting_28 (by decide) (Iff.rfl) (fun c_3 => ?_) (fun c_3 => ?_)
        · refine g_iload_n X 1 dX5_waiting_37 rfl rfl ?_
          refine g_istore_n X [(2, .int (nI (mW u k i))), (3, .int (nI (i + 1))), (1, .int (nI k)), (0, .ref (al 10 0))] dX5_waiting_38 rfl (by decide) rfl ?_
          refine g_iinc X 1 [(3, .int (nI (i + 1 + 1))), (2, .int (nI (mW u k i))), (1, .int (nI k)), (0, .ref (al 10 0))] dX5_waiting_39 rfl (nI_inc (by decide)) (by decide) rfl ?_
          refine g_goto X 4 dX5_waiting_42 (by decide) ?_
          refine g_lv [0, 1, 2, 3] rfl ?_
          have q9 := ih (i + 1) (by omega) (by omega)
          rw [show mW u k (i + 1) = mW u k i from by rw [mW, if_neg (fun z => c_3 z.2)]] at q9
          exact q9
        · refine g_iload_n X 1 dX5_waiting_31 rfl rfl ?_
          refine g_iconst X (v := nI 1) dX5_waiting_32 (by decide) ?_
          refine g_iadd X dX5_waiting_33 (nI_add _ _) ?_
          refine g_goto X 38 dX5_waiting_34 (by decide) ?_
          refine g_istore_n X [(2, .int (nI ((mW u k i) + 1))), (3, .int (nI (i + 1))), (1, .int (nI k)), (0, .ref (al 10 0))] dX5_waiting_38 rfl (by decide) rfl ?_
          refine g_iinc X 1 [(3, .int (nI (i + 1 + 1))), (2, .int (nI ((mW u k i) + 1))), (1, .int (nI k)), (0, .ref (al 10 0))] dX5_waiting_39 rfl (nI_inc (by decide)) (by decide) rfl ?_
          refine g_goto X 4 dX5_waiting_42 (by decide) ?_
          refine g_lv [0, 1, 2, 3] rfl ?_
          have q9 := ih (i + 1) (by omega) (by omega)
          rw [show mW u k (i + 1) = (mW u k i) + 1 from by rw [mW, if_pos ⟨c_2, c_3⟩]] at q9
          exact q9

set_option maxRecDepth 100000 in
set_option maxHeartbeats 4000000 in
/-- waiting -/
theorem m_waiting {l : Launch} {D : va_G} {ta : Nat → ClassId} {pl : Nat → Nat} {bs : Nat} {al : Ad} {Z : Wo} {u : St} (k : Nat) (h5 : u 5 0 ≤ 400) : GD l D ta pl bs yX5_waiting wsX5_waiting (rmF 0 0) [.ref (al 10 0), .int (nI k)] al (mM Z ta al u) (some (.int (nI (mW u k (u 5 0))))) (mM Z ta al u) := by
  refine GM.of (by decide) rfl (Nat.le_of_ble_eq_true rfl) ?_
  intro p e s m args below meth c X hnm
  refine g_lv (lv' := [(0, .ref (al 10 0)), (1, .int (nI k))]) [0, 1] rfl ?_
  refine g_iconst X (v := nI 0) dX5_waiting_0 (by decide) ?_
  refine g_istore_n X [(2, .int (nI 0)), (0, .ref (al 10 0)), (1, .int (nI k))] dX5_waiting_1 rfl (by decide) rfl ?_
  refine g_iconst X (v := nI 1) dX5_waiting_2 (by decide) ?_
  refine g_istore_n X [(3, .int (nI 1)), (2, .int (nI 0)), (0, .ref (al 10 0)), (1, .int (nI k))] dX5_waiting_3 rfl (by decide) rfl ?_
  refine g_lv [0, 1, 3, 2] rfl ?_
  exact l_waiting X k h5 (u 5 0 + 1) 0 (Nat.zero_le _) (by omega)

set_option maxRecDepth 100000 in
set_option maxHeartbeats 4000000 in
/-- the loop of firstWaiting at 7 -/
theorem l_firstWaiting {l : Launch} {D : va_G} {ta : Nat → ClassId} {pl : Nat → Nat} {bs : Nat} {al : Ad} {Z : Wo} {p : Program} {e : Env} {s : State} {m : MethodId} {args : Array Value} {below : List Frame} {meth : Method} {c : Code} {u : St} (X : Cx D ta pl bs 4 p s m args meth c cX5_firstWaiting wsX5_firstWaiting RX5 (some .int)) (k : Nat) (h5 : u 5 0 ≤ 400) : ∀ (n9 i : Nat), i ≤ u 5 0 → u 5 0 + 1 ≤ i + n9 → WW D bs 4 p l e (rmF 0 0) s m args below meth c (QQ D bs below args s 0 0 (fun r al' C' => r = some (.int (nI (mF u k (u 5 0)))) ∧ al' = al ∧ C' = mM Z ta al u)) al (mM Z ta al u) 0 0 7 [(3, .int (nI (u 5 0 - i))), (2, .int (nI (mF u k i))), (1, .int (nI k)), (0, .ref (al 10 0))] [] := by
  have hiX5 : ∀ w ∈ u_ws RX5 TX5 22, w ∈ wsX5_firstWaiting := by decide +kernel
  intro n9
  induction n9 with
  | zero => intro i h8 h9; exact absurd h9 (by omega)
  | succ n9 ih =>
    intro i h8 h9
    refine g_iload_n X 0 dX5_firstWaiting_7 rfl rfl ?_
    refine g_if_le X 42 dX5_firstWaiting_8 (by decide) (n0_le (by omega)) (fun c_1 => ?_) (fun c_1 => ?_)
    · refine g_iload_n X 1 dX5_firstWaiting_42 rfl rfl ?_
      exact g_iret X rfl dX5_firstWaiting_43 ⟨by have e9 : i = u 5 0 := (by omega); rw [e9], rfl, rfl⟩
    · refine g_aload_n X 3 dX5_firstWaiting_11 rfl rfl ?_
      refine g_get X 10 0 cm10 rfl 10 (by decide) hiX5 (by decide +kernel) rfl rfl dX5_firstWaiting_12 ?_
      refine g_iload_n X 0 dX5_firstWaiting_15 rfl rfl ?_
      refine g_iald X 15 0 cm15 (u 5 0 - i) (by omega) (by decide) rfl dX5_firstWaiting_16 ?_
      refine g_if_ne X 34 dX5_firstWaiting_17 (by decide) (Iff.rfl) (fun c_2 => ?_) (fun c_2 => ?_)
      · refine g_iload_n X 1 dX5_firstWaiting_34 rfl rfl ?_
        refine g_istore_n X [(2, .int (nI (mF u k i))), (3, .int (nI (u 5 0 - i))), (1, .int (nI k)), (0, .ref (al 10 0))] dX5_firstWaiting_35 rfl (by decide) rfl ?_
        refine g_iinc X 1 [(3, .int (nI (u 5 0 - i - 1))), (2, .int (nI (mF u k i))), (1, .int (nI k)), (0, .ref (al 10 0))] dX5_firstWaiting_36 rfl (nI_m1 (by omega)) (by decide) rfl ?_
        refine g_goto X 7 dX5_firstWaiting_39 (by decide) ?_
        refine g_lv [0, 1, 2, 3] rfl ?_
        have q9 := ih (i + 1) (by omega) (by omega)
        rw [show mF u k (i + 1) = mF u k i from by rw [mF, if_neg (fun z => c_2 z.1)]] at q9
        exact q9
      · refine g_aload_n X 3 dX5_firstWaiting_20 rfl rfl ?_
        refine g_get X 10 0 cm10 rfl 13 (by decide) hiX5 (by decide +kernel) rfl rfl dX5_firstWaiting_21 ?_
        refine g_iload_n X 0 dX5_firstWaiting_24 rfl rfl ?_
        refine g_iald X 18 0 cm18 (u 5 0 - i) (by omega) (by decide) rfl dX5_firstWaiting_25 ?_
        refine g_iload_n X 2 dX5_firstWaiting_26 rfl rfl ?_
        refine g_icmp_ne X 34 dX5_firstWaiting_27 (by decide) (Iff.rfl) (fun c_3 => ?_) (fun c_3 => ?_)
        · refine g_iload_n X 1 dX5_firstWaiting_34 rfl rfl ?_
          refine g_istore_n X [(2, .int (nI (mF u k i))), (3, .int (nI (u 5 0 - i))), (1, .int (nI k)), (0, .ref (al 10 0))] dX5_firstWaiting_35 rfl (by decide) rfl ?_
          refine g_iinc X 1 [(3, .int (nI (u 5 0 - i - 1))), (2, .int (nI (mF u k i))), (1, .int (nI k)), (0, .ref (al 10 0))] dX5_firstWaiting_36 rfl (nI_m1 (by omega)) (by decide) rfl ?_
          refine g_goto X 7 dX5_firstWaiting_39 (by decide) ?_
          refine g_lv [0, 1, 2, 3] rfl ?_
          have q9 := ih (i + 1) (by omega) (by omega)
          rw [show mF u k (i + 1) = mF u k i from by rw [mF, if_neg (fun z => c_3 z.2)]] at q9
          exact q9
        · refine g_iload_n X 0 dX5_firstWaiting_30 rfl rfl ?_
          refine g_goto X 35 dX5_firstWaiting_31 (by decide) ?_
          refine g_istore_n X [(2, .int (nI (u 5 0 - i))), (3, .int (nI (u 5 0 - i))), (1, .int (nI k)), (0, .ref (al 10 0))] dX5_firstWaiting_35 rfl (by decide) rfl ?_
          refine g_iinc X 1 [(3, .int (nI (u 5 0 - i - 1))), (2, .int (nI (u 5 0 - i))), (1, .int (nI k)), (0, .ref (al 10 0))] dX5_firstWaiting_36 rfl (nI_m1 (by omega)) (by decide) rfl ?_
          refine g_goto X 7 dX5_firstWaiting_39 (by decide) ?_
          refine g_lv [0, 1, 2, 3] rfl ?_
          have q9 := ih (i + 1) (by omega) (by omega)
          rw [show mF u k (i + 1) = u 5 0 - i from by rw [mF, if_pos ⟨c_2, c_3⟩]] at q9
          exact q9

set_option maxRecDepth 100000 in
set_option maxHeartbeats 4000000 in
/-- firstWaiting -/
theorem m_firstWaiting {l : Launch} {D : va_G} {ta : Nat → ClassId} {pl : Nat → Nat} {bs : Nat} {al : Ad} {Z : Wo} {u : St} (k : Nat) (h5 : u 5 0 ≤ 400) : GD l D ta pl bs yX5_firstWaiting wsX5_firstWaiting (rmF 0 0) [.ref (al 10 0), .int (nI k)] al (mM Z ta al u) (some (.int (nI (mF u k (u 5 0))))) (mM Z ta al u) := by
  refine GM.of (by decide) rfl (Nat.le_of_ble_eq_true rfl) ?_
  intro p e s m args below meth c X hnm
  have hiX5 : ∀ w ∈ u_ws RX5 TX5 22, w ∈ wsX5_firstWaiting := by decide +kernel
  refine g_lv (lv' := [(0, .ref (al 10 0)), (1, .int (nI k))]) [0, 1] rfl ?_
  refine g_iconst X (v := nI 0) dX5_firstWaiting_0 (by decide) ?_
  refine g_istore_n X [(2, .int (nI 0)), (0, .ref (al 10 0)), (1, .int (nI k))] dX5_firstWaiting_1 rfl (by decide) rfl ?_
  refine g_aload_n X 1 dX5_firstWaiting_2 rfl rfl ?_
  refine g_get X 10 0 cm10 rfl 7 (by decide) hiX5 (by decide +kernel) rfl rfl dX5_firstWaiting_3 ?_
  refine g_istore_n X [(3, .int (nI (u 5 0))), (2, .int (nI 0)), (0, .ref (al 10 0)), (1, .int (nI k))] dX5_firstWaiting_6 rfl (by decide) rfl ?_
  refine g_lv [0, 1, 3, 2] rfl ?_
  exact l_firstWaiting X k h5 (u 5 0 + 1) 0 (Nat.zero_le _) (by omega)

set_option maxRecDepth 100000 in
set_option maxHeartbeats 4000000 in
/-- the loop of move at 31 -/
theorem l_move {l : Launch} {D : va_G} {ta : Nat → ClassId} {pl : Nat → Nat} {bs : Nat} {al : Ad} {Z : Wo} {p : Program} {e : Env} {s : State} {m : MethodId} {args : Array Value} {below : List Frame} {meth : Method} {c : Code} {u : St} (X : Cx D ta pl bs 4 p s m args meth c cX5_move wsX5_move RX5 none)  (h1 : 1 ≤ u 1 0) (h2 : u 1 0 ≤ 200) : ∀ (n9 i : Nat), i ≤ u 1 0 - 1 → u 1 0 - 1 + 1 ≤ i + n9 → WW D bs 4 p l e (rmF 0 0) s m args below meth c (QQ D bs below args s 0 0 (fun r al' C' => r = none ∧ al' = al ∧ C' = mM Z ta al (mvA u))) al (mM Z ta al (mvD u i)) 0 0 31 [(3, .int (nI (u 1 0 - 1 - i))), (2, .int (nI (u 12 (u 1 0 - 1)))), (1, .int (nI (u 11 (u 1 0 - 1)))), (0, .ref (al 10 0))] [] := by
  have hiX5 : ∀ w ∈ u_ws RX5 TX5 22, w ∈ wsX5_move := by decide +kernel
  intro n9
  induction n9 with
  | zero => intro i h8 h9; exact absurd h9 (by omega)
  | succ n9 ih =>
    intro i h8 h9
    have k1 : mvD u i 1 0 = u 1 0 := mvD_k (by decide) (by decide) i
    generalize hw : mvD u i = w at *
    refine g_iload_n X 0 dX5_move_31 rfl rfl ?_
    refine g_if_le X 69 dX5_move_32 (by decide) (n0_le (by omega)) (fun c_1 => ?_) (fun c_1 => ?_)
    · refine g_aload_n X 3 dX5_move_69 rfl rfl ?_
      refine g_get X 10 0 cm10 rfl 3 (by decide) hiX5 (by decide +kernel) rfl rfl dX5_move_70 ?_
      refine g_iconst X (v := nI 0) dX5_move_73 (by decide) ?_
      refine g_iload_n X 2 dX5_move_74 rfl rfl ?_
      refine g_iast X 11 0 cm11 0 (by omega) (by decide) _ um_a11 dX5_move_75 ?_
      generalize hu_2 : st w 11 0 (u 11 (u 1 0 - 1)) = u_2
      refine g_aload_n X 3 dX5_move_76 rfl rfl ?_
      refine g_get X 10 0 cm10 rfl 4 (by decide) hiX5 (by decide +kernel) rfl rfl dX5_move_77 ?_
      refine g_iconst X (v := nI 0) dX5_move_80 (by decide) ?_
      refine g_iload_n X 1 dX5_move_81 rfl rfl ?_
      refine g_iast X 12 0 cm12 0 (by omega) (by decide) _ um_a12 dX5_move_82 ?_
      generalize hu_3 : st u_2 12 0 (u 12 (u 1 0 - 1)) = u_3
      exact g_vret X rfl dX5_move_83 ⟨rfl, rfl, congrArg _ (by subst hu_2; subst hu_3; subst hw; have e9 : i = u 1 0 - 1 := (by omega); rw [e9]; rfl)⟩
    · refine g_aload_n X 3 dX5_move_35 rfl rfl ?_
      refine g_get X 10 0 cm10 rfl 3 (by decide) hiX5 (by decide +kernel) rfl rfl dX5_move_36 ?_
      refine g_iload_n X 0 dX5_move_39 rfl rfl ?_
      refine g_aload_n X 3 dX5_move_40 rfl rfl ?_
      refine g_get X 10 0 cm10 rfl 3 (by decide) hiX5 (by decide +kernel) rfl rfl dX5_move_41 ?_
      refine g_iload_n X 0 dX5_move_44 rfl rfl ?_
      refine g_iconst X (v := nI 1) dX5_move_45 (by decide) ?_
      refine g_isub X dX5_move_46 (pk_sub (by omega)) ?_
      refine g_iald X 11 0 cm11 ((u 1 0 - 1 - i) - 1) (by omega) (by decide) rfl dX5_move_47 ?_
      refine g_iast X 11 0 cm11 (u 1 0 - 1 - i) (by omega) (by decide) _ um_a11 dX5_move_48 ?_
      generalize hu_4 : st w 11 (u 1 0 - 1 - i) (w 11 ((u 1 0 - 1 - i) - 1)) = u_4
      refine g_aload_n X 3 dX5_move_49 rfl rfl ?_
      refine g_get X 10 0 cm10 rfl 4 (by decide) hiX5 (by decide +kernel) rfl rfl dX5_move_50 ?_
      refine g_iload_n X 0 dX5_move_53 rfl rfl ?_
      refine g_aload_n X 3 dX5_move_54 rfl rfl ?_
      refine g_get X 10 0 cm10 rfl 4 (by decide) hiX5 (by decide +kernel) rfl rfl dX5_move_55 ?_
      refine g_iload_n X 0 dX5_move_58 rfl rfl ?_
      refine g_iconst X (v := nI 1) dX5_move_59 (by decide) ?_
      refine g_isub X dX5_move_60 (pk_sub (by omega)) ?_
      refine g_iald X 12 0 cm12 ((u 1 0 - 1 - i) - 1) (by omega) (by decide) rfl dX5_move_61 ?_
      refine g_iast X 12 0 cm12 (u 1 0 - 1 - i) (by omega) (by decide) _ um_a12 dX5_move_62 ?_
      generalize hu_5 : st u_4 12 (u 1 0 - 1 - i) (u_4 12 ((u 1 0 - 1 - i) - 1)) = u_5
      refine g_iinc X 0 [(3, .int (nI (u 1 0 - 1 - i - 1))), (2, .int (nI (u 12 (u 1 0 - 1)))), (1, .int (nI (u 11 (u 1 0 - 1)))), (0, .ref (al 10 0))] dX5_move_63 rfl (nI_m1 (by omega)) (by decide) rfl ?_
      refine g_goto X 31 dX5_move_66 (by decide) ?_
      refine g_lv [0, 1, 2, 3] rfl ?_
      subst hu_4
      subst hu_5
      subst hw
      exact ih (i + 1) (by omega) (by omega)

set_option maxRecDepth 100000 in
set_option maxHeartbeats 4000000 in
/-- move -/
theorem m_move {l : Launch} {D : va_G} {ta : Nat → ClassId} {pl : Nat → Nat} {bs : Nat} {al : Ad} {Z : Wo} {u : St}  (h1 : 1 ≤ u 1 0) (h2 : u 1 0 ≤ 200) : GD l D ta pl bs yX5_move wsX5_move (rmF 0 0) [.ref (al 10 0)] al (mM Z ta al u) none (mM Z ta al (mvA u)) := by
  refine GM.of (by decide) rfl (Nat.le_of_ble_eq_true rfl) ?_
  intro p e s m args below meth c X hnm
  have hiX5 : ∀ w ∈ u_ws RX5 TX5 22, w ∈ wsX5_move := by decide +kernel
  refine g_lv (lv' := [(0, .ref (al 10 0))]) [0] rfl ?_
  refine g_aload_n X 0 dX5_move_0 rfl rfl ?_
  refine g_get X 10 0 cm10 rfl 3 (by decide) hiX5 (by decide +kernel) rfl rfl dX5_move_1 ?_
  refine g_aload_n X 0 dX5_move_4 rfl rfl ?_
  refine g_get X 10 0 cm10 rfl 1 (by decide) hiX5 (by decide +kernel) rfl rfl dX5_move_5 ?_
  refine g_iconst X (v := nI 1) dX5_move_8 (by decide) ?_
  refine g_isub X dX5_move_9 (pk_sub (by omega)) ?_
  refine g_iald X 11 0 cm11 ((u 1 0) - 1) (by omega) (by decide) rfl dX5_move_10 ?_
  refine g_istore_n X [(1, .int (nI (u 11 ((u 1 0) - 1)))), (0, .ref (al 10 0))] dX5_move_11 rfl (by decide) rfl ?_
  refine g_aload_n X 1 dX5_move_12 rfl rfl ?_
  refine g_get X 10 0 cm10 rfl 4 (by decide) hiX5 (by decide +kernel) rfl rfl dX5_move_13 ?_
  refine g_aload_n X 1 dX5_move_16 rfl rfl ?_
  refine g_get X 10 0 cm10 rfl 1 (by decide) hiX5 (by decide +kernel) rfl rfl dX5_move_17 ?_
  refine g_iconst X (v := nI 1) dX5_move_20 (by decide) ?_
  refine g_isub X dX5_move_21 (pk_sub (by omega)) ?_
  refine g_iald X 12 0 cm12 ((u 1 0) - 1) (by omega) (by decide) rfl dX5_move_22 ?_
  refine g_istore_n X [(2, .int (nI (u 12 ((u 1 0) - 1)))), (1, .int (nI (u 11 ((u 1 0) - 1)))), (0, .ref (al 10 0))] dX5_move_23 rfl (by decide) rfl ?_
  refine g_aload_n X 2 dX5_move_24 rfl rfl ?_
  refine g_get X 10 0 cm10 rfl 1 (by decide) hiX5 (by decide +kernel) rfl rfl dX5_move_25 ?_
  refine g_iconst X (v := nI 1) dX5_move_28 (by decide) ?_
  refine g_isub X dX5_move_29 (pk_sub (by omega)) ?_
  refine g_istore_n X [(3, .int (nI ((u 1 0) - 1))), (2, .int (nI (u 12 ((u 1 0) - 1)))), (1, .int (nI (u 11 ((u 1 0) - 1)))), (0, .ref (al 10 0))] dX5_move_30 rfl (by decide) rfl ?_
  refine g_lv [0, 1, 2, 3] rfl ?_
  exact l_move X h1 h2 (u 1 0) 0 (Nat.zero_le _) (by omega)

set_option maxRecDepth 100000 in
set_option maxHeartbeats 4000000 in
/-- before -/
theorem m_before {l : Launch} {D : va_G} {ta : Nat → ClassId} {pl : Nat → Nat} {bs : Nat} {al : Ad} {Z : Wo} {u : St} (q : Nat) (h1 : 1 ≤ u 1 0) (h2 : u 1 0 ≤ 200) (h3 : q < u 1 0) : GD l D ta pl bs yX5_before wsX5_before (rmF 0 0) [.ref (al 10 0), .int (nI q)] al (mM Z ta al u) (some (.int (nI (mB u q)))) (mM Z ta al u) := by
  refine GM.of (by decide) rfl (Nat.le_of_ble_eq_true rfl) ?_
  intro p e s m args below meth c X hnm
  have hiX5 : ∀ w ∈ u_ws RX5 TX5 22, w ∈ wsX5_before := by decide +kernel
  refine g_lv (lv' := [(0, .ref (al 10 0)), (1, .int (nI q))]) [0, 1] rfl ?_
  refine g_iload_n X 1 dX5_before_0 rfl rfl ?_
  refine g_if_ne X 13 dX5_before_1 (by decide) (n0_eq (by omega)) (fun c_1 => ?_) (fun c_1 => ?_)
  · refine g_iload_n X 1 dX5_before_13 rfl rfl ?_
    refine g_iconst X (v := nI 1) dX5_before_14 (by decide) ?_
    refine g_isub X dX5_before_15 (pk_sub (by omega)) ?_
    exact g_iret X rfl dX5_before_16 ⟨by rw [mB, if_neg c_1], rfl, rfl⟩
  · refine g_aload_n X 0 dX5_before_4 rfl rfl ?_
    refine g_get X 10 0 cm10 rfl 1 (by decide) hiX5 (by decide +kernel) rfl rfl dX5_before_5 ?_
    refine g_iconst X (v := nI 1) dX5_before_8 (by decide) ?_
    refine g_isub X dX5_before_9 (pk_sub (by omega)) ?_
    refine g_goto X 16 dX5_before_10 (by decide) ?_
    exact g_iret X rfl dX5_before_16 ⟨by rw [mB, if_pos c_1], rfl, rfl⟩

set_option maxRecDepth 100000 in
set_option maxHeartbeats 4000000 in
/-- hasRoom -/
theorem m_hasRoom {l : Launch} {D : va_G} {ta : Nat → ClassId} {pl : Nat → Nat} {bs : Nat} {al : Ad} {Z : Wo} {u : St} (c0 : Nat) (h : c0 < 16) : GD l D ta pl bs yX5_hasRoom wsX5_hasRoom (rmF 0 0) [.ref (al 10 0), .int (nI c0)] al (mM Z ta al u) (some (.int (nI (bN (mRoom u c0))))) (mM Z ta al u) := by
  refine GM.of (by decide) rfl (Nat.le_of_ble_eq_true rfl) ?_
  intro p e s m args below meth c X hnm
  have hiX5 : ∀ w ∈ u_ws RX5 TX5 22, w ∈ wsX5_hasRoom := by decide +kernel
  refine g_lv (lv' := [(0, .ref (al 10 0)), (1, .int (nI c0))]) [0, 1] rfl ?_
  refine g_iload_n X 1 dX5_hasRoom_0 rfl rfl ?_
  refine g_bipush X (v := nI 15) dX5_hasRoom_1 (by decide) ?_
  refine g_icmp_eq X 26 dX5_hasRoom_3 (by decide) (nI_eq (by omega) (by omega)) (fun c_1 => ?_) (fun c_1 => ?_)
  · refine g_iconst X (v := nI 1) dX5_hasRoom_26 (by decide) ?_
    refine g_goto X 31 dX5_hasRoom_27 (by decide) ?_
    exact g_zret X rfl dX5_hasRoom_31 (by decide) ⟨congrArg (fun n => some (Value.int (nI n))) (bN_1 (by first | omega | simp [mRoom, c_1])), rfl, rfl⟩
  · refine g_aload_n X 0 dX5_hasRoom_6 rfl rfl ?_
    refine g_get X 10 0 cm10 rfl 16 (by decide) hiX5 (by decide +kernel) rfl rfl dX5_hasRoom_7 ?_
    refine g_iload_n X 1 dX5_hasRoom_10 rfl rfl ?_
    refine g_zald X 21 0 cm21 c0 (by omega) (by decide) rfl dX5_hasRoom_11 ?_
    refine g_if_ne X 30 dX5_hasRoom_12 (by decide) (Iff.rfl) (fun c_2 => ?_) (fun c_2 => ?_)
    · refine g_iconst X (v := nI 0) dX5_hasRoom_30 (by decide) ?_
      exact g_zret X rfl dX5_hasRoom_31 (by decide) ⟨congrArg (fun n => some (Value.int (nI n))) (bN_0 (by first | omega | simp [mRoom, c_1, c_2])), rfl, rfl⟩
    · refine g_aload_n X 0 dX5_hasRoom_15 rfl rfl ?_
      refine g_get X 10 0 cm10 rfl 15 (by decide) hiX5 (by decide +kernel) rfl rfl dX5_hasRoom_16 ?_
      refine g_iload_n X 1 dX5_hasRoom_19 rfl rfl ?_
      refine g_iald X 20 0 cm20 c0 (by omega) (by decide) rfl dX5_hasRoom_20 ?_
      refine g_bipush X (v := nI 10) dX5_hasRoom_21 (by decide) ?_
      refine g_icmp_ge X 30 dX5_hasRoom_23 (by decide) (Iff.rfl) (fun c_3 => ?_) (fun c_3 => ?_)
      · refine g_iconst X (v := nI 0) dX5_hasRoom_30 (by decide) ?_
        exact g_zret X rfl dX5_hasRoom_31 (by decide) ⟨congrArg (fun n => some (Value.int (nI n))) (bN_0 (by first | omega | simp [mRoom, c_1, c_2, c_3])), rfl, rfl⟩
      · refine g_iconst X (v := nI 1) dX5_hasRoom_26 (by decide) ?_
        refine g_goto X 31 dX5_hasRoom_27 (by decide) ?_
        exact g_zret X rfl dX5_hasRoom_31 (by decide) ⟨congrArg (fun n => some (Value.int (nI n))) (bN_1 (by first | omega | simp [mRoom, c_1, c_2, c_3])), rfl, rfl⟩

set_option maxRecDepth 100000 in
set_option maxHeartbeats 4000000 in
/-- goOut -/
theorem m_goOut {l : Launch} {D : va_G} {ta : Nat → ClassId} {pl : Nat → Nat} {bs : Nat} {al : Ad} {Z : Wo} {u : St} (i q c0 : Nat) (h1 : 1 ≤ u 1 0) (h2 : u 1 0 ≤ 200) (h3 : q < u 1 0) (h4 : i ≤ 400) (h5 : c0 < 16) (h6 : u 6 0 < 400) : GD l D ta pl bs yX5_goOut wsX5_goOut (rmF 1 21) [.ref (al 10 0), .int (nI i), .int (nI q), .int (nI c0)] al (mM Z ta al u) none (mM Z ta al (mOut u i q c0)) := by
  refine GM.of (by decide) rfl (Nat.le_of_ble_eq_true rfl) ?_
  intro p e s m args below meth c X hnm
  have hiX5 : ∀ w ∈ u_ws RX5 TX5 22, w ∈ wsX5_goOut := by decide +kernel
  refine g_lv (lv' := [(0, .ref (al 10 0)), (1, .int (nI i)), (2, .int (nI q)), (3, .int (nI c0))]) [0, 1, 2, 3] rfl ?_
  refine g_aload_n X 0 dX5_goOut_0 rfl rfl ?_
  refine g_get X 10 0 cm10 rfl 4 (by decide) hiX5 (by decide +kernel) rfl rfl dX5_goOut_1 ?_
  refine g_iload_n X 2 dX5_goOut_4 rfl rfl ?_
  refine g_iconst X (v := nI 0) dX5_goOut_5 (by decide) ?_
  refine g_iast X 12 0 cm12 q (by omega) (by decide) _ um_a12 dX5_goOut_6 ?_
  generalize hu_1 : st u 12 q 0 = u_1
  have k1u_1 : u_1 1 0 = u 1 0 := by rw [← hu_1]; first | rfl | exact st_nf (by omega)
  have k6u_1 : u_1 6 0 = u 6 0 := by rw [← hu_1]; first | rfl | exact st_nf (by omega)
  refine g_aload_n X 0 dX5_goOut_7 rfl rfl ?_
  refine g_get X 10 0 cm10 rfl 8 (by decide) hiX5 (by decide +kernel) rfl rfl dX5_goOut_8 ?_
  refine g_iload_n X 1 dX5_goOut_11 rfl rfl ?_
  refine g_iald X 13 0 cm13 i (by omega) (by decide) rfl dX5_goOut_12 ?_
  refine g_iconst X (v := nI 2) dX5_goOut_13 (by decide) ?_
  refine g_icmp_ne X 28 dX5_goOut_14 (by decide) (Iff.rfl) (fun c_2 => ?_) (fun c_2 => ?_)
  · refine g_aload_n X 0 dX5_goOut_28 rfl rfl ?_
    refine g_get X 10 0 cm10 rfl 10 (by decide) hiX5 (by decide +kernel) rfl rfl dX5_goOut_29 ?_
    refine g_iload_n X 1 dX5_goOut_32 rfl rfl ?_
    refine g_iconst X (v := nI 3) dX5_goOut_33 (by decide) ?_
    refine g_iast X 15 0 cm15 i (by omega) (by decide) _ um_a15 dX5_goOut_34 ?_
    generalize hu_3 : st u_1 15 i 3 = u_3
    have k1u_3 : u_3 1 0 = u_1 1 0 := by rw [← hu_3]; first | rfl | exact st_nf (by omega)
    have k6u_3 : u_3 6 0 = u_1 6 0 := by rw [← hu_3]; first | rfl | exact st_nf (by omega)
    refine g_aload_n X 0 dX5_goOut_35 rfl rfl ?_
    refine g_get X 10 0 cm10 rfl 15 (by decide) hiX5 (by decide +kernel) rfl rfl dX5_goOut_36 ?_
    refine g_iload_n X 3 dX5_goOut_39 rfl rfl ?_
    refine g_dup2 X dX5_goOut_40 rfl rfl ?_
    refine g_iald X 20 0 cm20 c0 (by omega) (by decide) rfl dX5_goOut_41 ?_
    refine g_iconst X (v := nI 1) dX5_goOut_42 (by decide) ?_
    refine g_iadd X dX5_goOut_43 (nI_add _ _) ?_
    refine g_iast X 20 0 cm20 c0 (by omega) (by decide) _ um_a20 dX5_goOut_44 ?_
    generalize hu_4 : st u_3 20 c0 ((u_3 20 c0) + 1) = u_4
    have k1u_4 : u_4 1 0 = u_3 1 0 := by rw [← hu_4]; first | rfl | exact st_nf (by omega)
    have k6u_4 : u_4 6 0 = u_3 6 0 := by rw [← hu_4]; first | rfl | exact st_nf (by omega)
    refine g_aload_n X 0 dX5_goOut_45 rfl rfl ?_
    refine g_get X 10 0 cm10 rfl 18 (by decide) hiX5 (by decide +kernel) rfl rfl dX5_goOut_46 ?_
    refine g_aload_n X 0 dX5_goOut_49 rfl rfl ?_
    refine g_get X 10 0 cm10 rfl 17 (by decide) hiX5 (by decide +kernel) rfl rfl dX5_goOut_50 ?_
    refine g_iload_n X 1 dX5_goOut_53 rfl rfl ?_
    refine g_iast X 22 0 cm22 (u_4 6 0) (by omega) (by decide) _ um_a22 dX5_goOut_54 ?_
    generalize hu_5 : st u_4 22 (u_4 6 0) i = u_5
    have k1u_5 : u_5 1 0 = u_4 1 0 := by rw [← hu_5]; first | rfl | exact st_nf (by omega)
    have k6u_5 : u_5 6 0 = u_4 6 0 := by rw [← hu_5]; first | rfl | exact st_nf (by omega)
    refine g_aload_n X 0 dX5_goOut_55 rfl rfl ?_
    refine g_get X 10 0 cm10 rfl 19 (by decide) hiX5 (by decide +kernel) rfl rfl dX5_goOut_56 ?_
    refine g_aload_n X 0 dX5_goOut_59 rfl rfl ?_
    refine g_get X 10 0 cm10 rfl 17 (by decide) hiX5 (by decide +kernel) rfl rfl dX5_goOut_60 ?_
    refine g_iload_n X 3 dX5_goOut_63 rfl rfl ?_
    refine g_iast X 23 0 cm23 (u_5 6 0) (by omega) (by decide) _ um_a23 dX5_goOut_64 ?_
    generalize hu_6 : st u_5 23 (u_5 6 0) c0 = u_6
    have k1u_6 : u_6 1 0 = u_5 1 0 := by rw [← hu_6]; first | rfl | exact st_nf (by omega)
    have k6u_6 : u_6 6 0 = u_5 6 0 := by rw [← hu_6]; first | rfl | exact st_nf (by omega)
    refine g_aload_n X 0 dX5_goOut_65 rfl rfl ?_
    refine g_get X 10 0 cm10 rfl 20 (by decide) hiX5 (by decide +kernel) rfl rfl dX5_goOut_66 ?_
    refine g_aload_n X 0 dX5_goOut_69 rfl rfl ?_
    refine g_get X 10 0 cm10 rfl 17 (by decide) hiX5 (by decide +kernel) rfl rfl dX5_goOut_70 ?_
    refine g_aload_n X 0 dX5_goOut_73 rfl rfl ?_
    refine g_get X 10 0 cm10 rfl 6 (by decide) hiX5 (by decide +kernel) rfl rfl dX5_goOut_74 ?_
    refine g_iast X 24 0 cm24 (u_6 6 0) (by omega) (by decide) _ um_a24 dX5_goOut_77 ?_
    generalize hu_7 : st u_6 24 (u_6 6 0) (u_6 4 0) = u_7
    have k1u_7 : u_7 1 0 = u_6 1 0 := by rw [← hu_7]; first | rfl | exact st_nf (by omega)
    have k6u_7 : u_7 6 0 = u_6 6 0 := by rw [← hu_7]; first | rfl | exact st_nf (by omega)
    refine g_aload_n X 0 dX5_goOut_78 rfl rfl ?_
    refine g_dup X dX5_goOut_79 rfl ?_
    refine g_get X 10 0 cm10 rfl 17 (by decide) hiX5 (by decide +kernel) rfl rfl dX5_goOut_80 ?_
    refine g_iconst X (v := nI 1) dX5_goOut_83 (by decide) ?_
    refine g_iadd X dX5_goOut_84 (nI_add _ _) ?_
    refine g_put X tyX5 tyX5_ok nmX5 10 0 cm10 rfl 17 (by decide) hiX5 (by decide +kernel) rfl rfl (ty := .int) (by decide +kernel) rfl rfl (Nat.le_of_ble_eq_true rfl) _ um_gone dX5_goOut_85 ?_
    generalize hu_8 : st u_7 6 0 ((u_7 6 0) + 1) = u_8
    have k1u_8 : u_8 1 0 = u_7 1 0 := by rw [← hu_8]; first | rfl | exact st_nf (by omega)
    exact g_vret X rfl dX5_goOut_88 ⟨rfl, rfl, congrArg _ (by subst hu_1; subst hu_3; subst hu_4; subst hu_5; subst hu_6; subst hu_7; subst hu_8; simp only [mOut, setLd, c_2, if_true, if_false])⟩
  · refine g_aload_n X 0 dX5_goOut_17 rfl rfl ?_
    refine g_get X 10 0 cm10 rfl 4 (by decide) hiX5 (by decide +kernel) rfl rfl dX5_goOut_18 ?_
    refine g_aload_n X 0 dX5_goOut_21 rfl rfl ?_
    refine g_iload_n X 2 dX5_goOut_22 rfl rfl ?_
    have hq_9 : mB u_1 q < u_1 1 0 := mB_lt (by omega) (by omega)
    refine g_callDV1 (n := 1) X 10 0 [.int (nI q)] cm10 rfl (m_before q (by omega) (by omega) (by omega)) gX5_goOut_X5_before rfl ⟨rfl, rfl⟩ (by decide +kernel) ⟨by decide, by decide⟩ rfl (Nat.le_of_ble_eq_true rfl) dX5_goOut_23 ⟨Nat.zero_le _, Nat.zero_le _⟩ _ rfl ?_
    refine g_iconst X (v := nI 0) dX5_goOut_26 (by decide) ?_
    refine g_iast X 12 0 cm12 (mB u_1 q) (by omega) (by decide) _ um_a12 dX5_goOut_27 ?_
    generalize hu_10 : st u_1 12 (mB u_1 q) 0 = u_10
    have k1u_10 : u_10 1 0 = u_1 1 0 := by rw [← hu_10]; first | rfl | exact st_nf (by omega)
    have k6u_10 : u_10 6 0 = u_1 6 0 := by rw [← hu_10]; first | rfl | exact st_nf (by omega)
    refine g_aload_n X 0 dX5_goOut_28 rfl rfl ?_
    refine g_get X 10 0 cm10 rfl 10 (by decide) hiX5 (by decide +kernel) rfl rfl dX5_goOut_29 ?_
    refine g_iload_n X 1 dX5_goOut_32 rfl rfl ?_
    refine g_iconst X (v := nI 3) dX5_goOut_33 (by decide) ?_
    refine g_iast X 15 0 cm15 i (by omega) (by decide) _ um_a15 dX5_goOut_34 ?_
    generalize hu_11 : st u_10 15 i 3 = u_11
    have k1u_11 : u_11 1 0 = u_10 1 0 := by rw [← hu_11]; first | rfl | exact st_nf (by omega)
    have k6u_11 : u_11 6 0 = u_10 6 0 := by rw [← hu_11]; first | rfl | exact st_nf (by omega)
    refine g_aload_n X 0 dX5_goOut_35 rfl rfl ?_
    refine g_get X 10 0 cm10 rfl 15 (by decide) hiX5 (by decide +kernel) rfl rfl dX5_goOut_36 ?_
    refine g_iload_n X 3 dX5_goOut_39 rfl rfl ?_
    refine g_dup2 X dX5_goOut_40 rfl rfl ?_
    refine g_iald X 20 0 cm20 c0 (by omega) (by decide) rfl dX5_goOut_41 ?_
    refine g_iconst X (v := nI 1) dX5_goOut_42 (by decide) ?_
    refine g_iadd X dX5_goOut_43 (nI_add _ _) ?_
    refine g_iast X 20 0 cm20 c0 (by omega) (by decide) _ um_a20 dX5_goOut_44 ?_
    generalize hu_12 : st u_11 20 c0 ((u_11 20 c0) + 1) = u_12
    have k1u_12 : u_12 1 0 = u_11 1 0 := by rw [← hu_12]; first | rfl | exact st_nf (by omega)
    have k6u_12 : u_12 6 0 = u_11 6 0 := by rw [← hu_12]; first | rfl | exact st_nf (by omega)
    refine g_aload_n X 0 dX5_goOut_45 rfl rfl ?_
    refine g_get X 10 0 cm10 rfl 18 (by decide) hiX5 (by decide +kernel) rfl rfl dX5_goOut_46 ?_
    refine g_aload_n X 0 dX5_goOut_49 rfl rfl ?_
    refine g_get X 10 0 cm10 rfl 17 (by decide) hiX5 (by decide +kernel) rfl rfl dX5_goOut_50 ?_
    refine g_iload_n X 1 dX5_goOut_53 rfl rfl ?_
    refine g_iast X 22 0 cm22 (u_12 6 0) (by omega) (by decide) _ um_a22 dX5_goOut_54 ?_
    generalize hu_13 : st u_12 22 (u_12 6 0) i = u_13
    have k1u_13 : u_13 1 0 = u_12 1 0 := by rw [← hu_13]; first | rfl | exact st_nf (by omega)
    have k6u_13 : u_13 6 0 = u_12 6 0 := by rw [← hu_13]; first | rfl | exact st_nf (by omega)
    refine g_aload_n X 0 dX5_goOut_55 rfl rfl ?_
    refine g_get X 10 0 cm10 rfl 19 (by decide) hiX5 (by decide +kernel) rfl rfl dX5_goOut_56 ?_
    refine g_aload_n X 0 dX5_goOut_59 rfl rfl ?_
    refine g_get X 10 0 cm10 rfl 17 (by decide) hiX5 (by decide +kernel) rfl rfl dX5_goOut_60 ?_
    refine g_iload_n X 3 dX5_goOut_63 rfl rfl ?_
    refine g_iast X 23 0 cm23 (u_13 6 0) (by omega) (by decide) _ um_a23 dX5_goOut_64 ?_
    generalize hu_14 : st u_13 23 (u_13 6 0) c0 = u_14
    have k1u_14 : u_14 1 0 = u_13 1 0 := by rw [← hu_14]; first | rfl | exact st_nf (by omega)
    have k6u_14 : u_14 6 0 = u_13 6 0 := by rw [← hu_14]; first | rfl | exact st_nf (by omega)
    refine g_aload_n X 0 dX5_goOut_65 rfl rfl ?_
    refine g_get X 10 0 cm10 rfl 20 (by decide) hiX5 (by decide +kernel) rfl rfl dX5_goOut_66 ?_
    refine g_aload_n X 0 dX5_goOut_69 rfl rfl ?_
    refine g_get X 10 0 cm10 rfl 17 (by decide) hiX5 (by decide +kernel) rfl rfl dX5_goOut_70 ?_
    refine g_aload_n X 0 dX5_goOut_73 rfl rfl ?_
    refine g_get X 10 0 cm10 rfl 6 (by decide) hiX5 (by decide +kernel) rfl rfl dX5_goOut_74 ?_
    refine g_iast X 24 0 cm24 (u_14 6 0) (by omega) (by decide) _ um_a24 dX5_goOut_77 ?_
    generalize hu_15 : st u_14 24 (u_14 6 0) (u_14 4 0) = u_15
    have k1u_15 : u_15 1 0 = u_14 1 0 := by rw [← hu_15]; first | rfl | exact st_nf (by omega)
    have k6u_15 : u_15 6 0 = u_14 6 0 := by rw [← hu_15]; first | rfl | exact st_nf (by omega)
    refine g_aload_n X 0 dX5_goOut_78 rfl rfl ?_
    refine g_dup X dX5_goOut_79 rfl ?_
    refine g_get X 10 0 cm10 rfl 17 (by decide) hiX5 (by decide +kernel) rfl rfl dX5_goOut_80 ?_
    refine g_iconst X (v := nI 1) dX5_goOut_83 (by decide) ?_
    refine g_iadd X dX5_goOut_84 (nI_add _ _) ?_
    refine g_put X tyX5 tyX5_ok nmX5 10 0 cm10 rfl 17 (by decide) hiX5 (by decide +kernel) rfl rfl (ty := .int) (by decide +kernel) rfl rfl (Nat.le_of_ble_eq_true rfl) _ um_gone dX5_goOut_85 ?_
    generalize hu_16 : st u_15 6 0 ((u_15 6 0) + 1) = u_16
    have k1u_16 : u_16 1 0 = u_15 1 0 := by rw [← hu_16]; first | rfl | exact st_nf (by omega)
    exact g_vret X rfl dX5_goOut_88 ⟨rfl, rfl, congrArg _ (by subst hu_1; subst hu_10; subst hu_11; subst hu_12; subst hu_13; subst hu_14; subst hu_15; subst hu_16; simp only [mOut, setLd, c_2, if_true, if_false])⟩

set_option maxRecDepth 100000 in
set_option maxHeartbeats 4000000 in
/-- passChute -/
theorem m_passChute {l : Launch} {D : va_G} {ta : Nat → ClassId} {pl : Nat → Nat} {bs : Nat} {al : Ad} {Z : Wo} {u : St} (c0 : Nat) (hJ : Jv u) (h : c0 < 16) : GD l D ta pl bs yX5_passChute wsX5_passChute (rmF 2 44) [.ref (al 10 0), .int (nI c0)] al (mM Z ta al u) none (mM Z ta al (mPass u c0)) := by
  refine GM.of (by decide) rfl (Nat.le_of_ble_eq_true rfl) ?_
  intro p e s m args below meth c X hnm
  have hiX5 : ∀ w ∈ u_ws RX5 TX5 22, w ∈ wsX5_passChute := by decide +kernel
  obtain ⟨h1, h2, h5, h31, h32, hJ6, h6⟩ := id hJ.w
  have hm9 : c0 * u 1 0 ≤ 15 * u 1 0 := Nat.mul_le_mul_right _ (by omega)
  refine g_lv (lv' := [(0, .ref (al 10 0)), (1, .int (nI c0))]) [0, 1] rfl ?_
  refine g_iload_n X 1 dX5_passChute_0 rfl rfl ?_
  refine g_aload_n X 0 dX5_passChute_1 rfl rfl ?_
  refine g_get X 10 0 cm10 rfl 1 (by decide) hiX5 (by decide +kernel) rfl rfl dX5_passChute_2 ?_
  refine g_imul X dX5_passChute_5 (pk_mul _ _) ?_
  refine g_aload_n X 0 dX5_passChute_6 rfl rfl ?_
  refine g_get X 10 0 cm10 rfl 1 (by decide) hiX5 (by decide +kernel) rfl rfl dX5_passChute_7 ?_
  refine g_iconst X (v := nI 2) dX5_passChute_10 (by decide) ?_
  refine g_idiv X dX5_passChute_11 (nI_ne0 (by omega) (by omega)) (pk_div (by omega) (by omega) (by omega)) ?_
  refine g_iadd X dX5_passChute_12 (nI_add _ _) ?_
  refine g_bipush X (v := nI 16) dX5_passChute_13 (by decide) ?_
  refine g_idiv X dX5_passChute_15 (nI_ne0 (by omega) (by omega)) (pk_div (by omega) (by omega) (by omega)) ?_
  refine g_istore_n X [(2, .int (nI (((c0 * (u 1 0)) + ((u 1 0) / 2)) / 16))), (0, .ref (al 10 0)), (1, .int (nI c0))] dX5_passChute_16 rfl (by decide) rfl ?_
  have hp9 := pos6_lt (c := c0) (T := u 1 0) (by omega) (by omega) (by omega)
  have hv9 := hJ6 ((c0 * u 1 0 + u 1 0 / 2) / 16)
  refine g_aload_n X 1 dX5_passChute_17 rfl rfl ?_
  refine g_get X 10 0 cm10 rfl 4 (by decide) hiX5 (by decide +kernel) rfl rfl dX5_passChute_18 ?_
  refine g_iload_n X 0 dX5_passChute_21 rfl rfl ?_
  refine g_iald X 12 0 cm12 (((c0 * (u 1 0)) + ((u 1 0) / 2)) / 16) (by omega) (by decide) rfl dX5_passChute_22 ?_
  refine g_istore_n X [(3, .int (nI (u 12 (((c0 * (u 1 0)) + ((u 1 0) / 2)) / 16)))), (2, .int (nI (((c0 * (u 1 0)) + ((u 1 0) / 2)) / 16))), (0, .ref (al 10 0)), (1, .int (nI c0))] dX5_passChute_23 rfl (by decide) rfl ?_
  refine g_iload_n X 0 dX5_passChute_24 rfl rfl ?_
  refine g_if_eq X 53 dX5_passChute_25 (by decide) (n0_eq (by omega)) (fun c_1 => ?_) (fun c_1 => ?_)
  · exact g_vret X rfl dX5_passChute_53 ⟨rfl, rfl, congrArg _ (by  first | contradiction | exact mPass_1 ⟨(by assumption), (by assumption), (by assumption)⟩ (Or.inl (by assumption)) (by assumption) | exact mPass_1 ⟨(by assumption), (by assumption), (by assumption)⟩ (Or.inr ⟨(by assumption), (by assumption)⟩) (by assumption) | exact mPass_2 ⟨(by assumption), (by assumption), (by assumption)⟩ (fun z => absurd z.2 (by assumption)) (by assumption) | exact mPass_3 ⟨(by assumption), (by assumption), (by assumption)⟩ (fun z => absurd z.2 (by assumption)) (by assumption) | exact mPass_3 ⟨(by assumption), (by assumption), (by assumption)⟩ (fun z => z.1.elim (by assumption) (fun y => by first | exact absurd y.1 (by assumption) | exact y.2 (by assumption))) (by assumption) | exact mPass_0 (fun z => by first | exact z.1 (by assumption) | exact absurd z.2.1 (by assumption) | exact absurd z.2.2 (by assumption)))⟩
  · refine g_aload_n X 2 dX5_passChute_28 rfl rfl ?_
    refine g_get X 10 0 cm10 rfl 11 (by decide) hiX5 (by decide +kernel) rfl rfl dX5_passChute_29 ?_
    refine g_iload_n X 0 dX5_passChute_32 rfl rfl ?_
    refine g_iald X 16 0 cm16 (u 12 (((c0 * (u 1 0)) + ((u 1 0) / 2)) / 16)) (by omega) (by decide) rfl dX5_passChute_33 ?_
    refine g_aload_n X 2 dX5_passChute_34 rfl rfl ?_
    refine g_get X 10 0 cm10 rfl 3 (by decide) hiX5 (by decide +kernel) rfl rfl dX5_passChute_35 ?_
    refine g_iload_n X 1 dX5_passChute_38 rfl rfl ?_
    refine g_iald X 11 0 cm11 (((c0 * (u 1 0)) + ((u 1 0) / 2)) / 16) (by omega) (by decide) rfl dX5_passChute_39 ?_
    refine g_icmp_ne X 53 dX5_passChute_40 (by decide) (Iff.rfl) (fun c_2 => ?_) (fun c_2 => ?_)
    · exact g_vret X rfl dX5_passChute_53 ⟨rfl, rfl, congrArg _ (by  first | contradiction | exact mPass_1 ⟨(by assumption), (by assumption), (by assumption)⟩ (Or.inl (by assumption)) (by assumption) | exact mPass_1 ⟨(by assumption), (by assumption), (by assumption)⟩ (Or.inr ⟨(by assumption), (by assumption)⟩) (by assumption) | exact mPass_2 ⟨(by assumption), (by assumption), (by assumption)⟩ (fun z => absurd z.2 (by assumption)) (by assumption) | exact mPass_3 ⟨(by assumption), (by assumption), (by assumption)⟩ (fun z => absurd z.2 (by assumption)) (by assumption) | exact mPass_3 ⟨(by assumption), (by assumption), (by assumption)⟩ (fun z => z.1.elim (by assumption) (fun y => by first | exact absurd y.1 (by assumption) | exact y.2 (by assumption))) (by assumption) | exact mPass_0 (fun z => by first | exact z.1 (by assumption) | exact absurd z.2.1 (by assumption) | exact absurd z.2.2 (by assumption)))⟩
    · refine g_aload_n X 2 dX5_passChute_43 rfl rfl ?_
      refine g_get X 10 0 cm10 rfl 10 (by decide) hiX5 (by decide +kernel) rfl rfl dX5_passChute_44 ?_
      refine g_iload_n X 0 dX5_passChute_47 rfl rfl ?_
      refine g_iald X 15 0 cm15 (u 12 (((c0 * (u 1 0)) + ((u 1 0) / 2)) / 16)) (by omega) (by decide) rfl dX5_passChute_48 ?_
      refine g_iconst X (v := nI 1) dX5_passChute_49 (by decide) ?_
      refine g_icmp_eq X 54 dX5_passChute_50 (by decide) (Iff.rfl) (fun c_3 => ?_) (fun c_3 => ?_)
      · refine g_aload_n X 2 dX5_passChute_54 rfl rfl ?_
        refine g_get X 10 0 cm10 rfl 9 (by decide) hiX5 (by decide +kernel) rfl rfl dX5_passChute_55 ?_
        refine g_iload_n X 0 dX5_passChute_58 rfl rfl ?_
        refine g_iald X 14 0 cm14 (u 12 (((c0 * (u 1 0)) + ((u 1 0) / 2)) / 16)) (by omega) (by decide) rfl dX5_passChute_59 ?_
        refine g_iload_n X 3 dX5_passChute_60 rfl rfl ?_
        refine g_icmp_eq X 83 dX5_passChute_61 (by decide) (Iff.rfl) (fun c_4 => ?_) (fun c_4 => ?_)
        · refine g_iconst X (v := nI 1) dX5_passChute_83 (by decide) ?_
          refine g_goto X 88 dX5_passChute_84 (by decide) ?_
          refine g_istore X [(4, .int (nI 1)), (3, .int (nI (u 12 (((c0 * (u 1 0)) + ((u 1 0) / 2)) / 16)))), (2, .int (nI (((c0 * (u 1 0)) + ((u 1 0) / 2)) / 16))), (0, .ref (al 10 0)), (1, .int (nI c0))] dX5_passChute_88 (by decide) rfl ?_
          refine g_iload X 0 dX5_passChute_90 rfl ?_
          refine g_if_eq X 113 dX5_passChute_92 (by decide) (n0_eq (by omega)) (fun c_5 => ?_) (fun c_5 => ?_)
          · exact absurd c_5 (by decide)
          · refine g_aload_n X 3 dX5_passChute_95 rfl rfl ?_
            refine g_iload_n X 4 dX5_passChute_96 rfl rfl ?_
            refine g_callDV1 (n := 1) X 10 0 [.int (nI c0)] cm10 rfl (m_hasRoom c0 (by omega)) gX5_passChute_X5_hasRoom rfl ⟨rfl, rfl⟩ (by decide +kernel) ⟨by decide, by decide⟩ rfl (Nat.le_of_ble_eq_true rfl) dX5_passChute_97 ⟨Nat.zero_le _, Nat.zero_le _⟩ _ rfl ?_
            refine g_if_eq X 113 dX5_passChute_100 (by decide) (bN_eq0) (fun c_6 => ?_) (fun c_6 => ?_)
            · refine g_aload_n X 3 dX5_passChute_113 rfl rfl ?_
              refine g_get X 10 0 cm10 rfl 9 (by decide) hiX5 (by decide +kernel) rfl rfl dX5_passChute_114 ?_
              refine g_iload_n X 1 dX5_passChute_117 rfl rfl ?_
              refine g_iald X 14 0 cm14 (u 12 (((c0 * (u 1 0)) + ((u 1 0) / 2)) / 16)) (by omega) (by decide) rfl dX5_passChute_118 ?_
              refine g_iload_n X 4 dX5_passChute_119 rfl rfl ?_
              refine g_icmp_ne X 133 dX5_passChute_120 (by decide) (Iff.rfl) (fun c_7 => ?_) (fun c_7 => ?_)
              · exact g_vret X rfl dX5_passChute_133 ⟨rfl, rfl, congrArg _ (by  first | contradiction | exact mPass_1 ⟨(by assumption), (by assumption), (by assumption)⟩ (Or.inl (by assumption)) (by assumption) | exact mPass_1 ⟨(by assumption), (by assumption), (by assumption)⟩ (Or.inr ⟨(by assumption), (by assumption)⟩) (by assumption) | exact mPass_2 ⟨(by assumption), (by assumption), (by assumption)⟩ (fun z => absurd z.2 (by assumption)) (by assumption) | exact mPass_3 ⟨(by assumption), (by assumption), (by assumption)⟩ (fun z => absurd z.2 (by assumption)) (by assumption) | exact mPass_3 ⟨(by assumption), (by assumption), (by assumption)⟩ (fun z => z.1.elim (by assumption) (fun y => by first | exact absurd y.1 (by assumption) | exact y.2 (by assumption))) (by assumption) | exact mPass_0 (fun z => by first | exact z.1 (by assumption) | exact absurd z.2.1 (by assumption) | exact absurd z.2.2 (by assumption)))⟩
              · refine g_aload_n X 3 dX5_passChute_123 rfl rfl ?_
                refine g_get X 10 0 cm10 rfl 12 (by decide) hiX5 (by decide +kernel) rfl rfl dX5_passChute_124 ?_
                refine g_iload_n X 1 dX5_passChute_127 rfl rfl ?_
                refine g_dup2 X dX5_passChute_128 rfl rfl ?_
                refine g_iald X 17 0 cm17 (u 12 (((c0 * (u 1 0)) + ((u 1 0) / 2)) / 16)) (by omega) (by decide) rfl dX5_passChute_129 ?_
                refine g_iconst X (v := nI 1) dX5_passChute_130 (by decide) ?_
                refine g_iadd X dX5_passChute_131 (nI_add _ _) ?_
                refine g_iast X 17 0 cm17 (u 12 (((c0 * (u 1 0)) + ((u 1 0) / 2)) / 16)) (by omega) (by decide) _ um_a17 dX5_passChute_132 ?_
                generalize hu_8 : st u 17 (u 12 (((c0 * (u 1 0)) + ((u 1 0) / 2)) / 16)) ((u 17 (u 12 (((c0 * (u 1 0)) + ((u 1 0) / 2)) / 16))) + 1) = u_8
                exact g_vret X rfl dX5_passChute_133 ⟨rfl, rfl, congrArg _ (by subst hu_8; first | contradiction | exact mPass_1 ⟨(by assumption), (by assumption), (by assumption)⟩ (Or.inl (by assumption)) (by assumption) | exact mPass_1 ⟨(by assumption), (by assumption), (by assumption)⟩ (Or.inr ⟨(by assumption), (by assumption)⟩) (by assumption) | exact mPass_2 ⟨(by assumption), (by assumption), (by assumption)⟩ (fun z => absurd z.2 (by assumption)) (by assumption) | exact mPass_3 ⟨(by assumption), (by assumption), (by assumption)⟩ (fun z => absurd z.2 (by assumption)) (by assumption) | exact mPass_3 ⟨(by assumption), (by assumption), (by assumption)⟩ (fun z => z.1.elim (by assumption) (fun y => by first | exact absurd y.1 (by assumption) | exact y.2 (by assumption))) (by assumption) | exact mPass_0 (fun z => by first | exact z.1 (by assumption) | exact absurd z.2.1 (by assumption) | exact absurd z.2.2 (by assumption)))⟩
            · have c_6 := Decidable.of_not_not c_6
              have hg9 := hJ.go (i := u 12 ((c0 * u 1 0 + u 1 0 / 2) / 16)) (by assumption) (by omega) (by assumption)
              refine g_aload_n X 3 dX5_passChute_103 rfl rfl ?_
              refine g_iload_n X 1 dX5_passChute_104 rfl rfl ?_
              refine g_iload_n X 2 dX5_passChute_105 rfl rfl ?_
              refine g_iload_n X 4 dX5_passChute_106 rfl rfl ?_
              refine g_callDV0 (n := 3) X 10 0 [.int (nI (u 12 (((c0 * (u 1 0)) + ((u 1 0) / 2)) / 16))), .int (nI (((c0 * (u 1 0)) + ((u 1 0) / 2)) / 16)), .int (nI c0)] cm10 rfl (m_goOut (u 12 (((c0 * (u 1 0)) + ((u 1 0) / 2)) / 16)) (((c0 * (u 1 0)) + ((u 1 0) / 2)) / 16) c0 (by omega) (by omega) (by omega) (by omega) (by omega) (by omega)) gX5_passChute_X5_goOut rfl ⟨rfl, rfl⟩ (by decide +kernel) ⟨by decide, by decide⟩ rfl (Nat.le_of_ble_eq_true rfl) dX5_passChute_107 ⟨Nat.zero_le _, Nat.zero_le _⟩ _ rfl ?_
              generalize hu_9 : mOut u (u 12 (((c0 * (u 1 0)) + ((u 1 0) / 2)) / 16)) (((c0 * (u 1 0)) + ((u 1 0) / 2)) / 16) c0 = u_9
              refine g_goto X 133 dX5_passChute_110 (by decide) ?_
              exact g_vret X rfl dX5_passChute_133 ⟨rfl, rfl, congrArg _ (by subst hu_9; first | contradiction | exact mPass_1 ⟨(by assumption), (by assumption), (by assumption)⟩ (Or.inl (by assumption)) (by assumption) | exact mPass_1 ⟨(by assumption), (by assumption), (by assumption)⟩ (Or.inr ⟨(by assumption), (by assumption)⟩) (by assumption) | exact mPass_2 ⟨(by assumption), (by assumption), (by assumption)⟩ (fun z => absurd z.2 (by assumption)) (by assumption) | exact mPass_3 ⟨(by assumption), (by assumption), (by assumption)⟩ (fun z => absurd z.2 (by assumption)) (by assumption) | exact mPass_3 ⟨(by assumption), (by assumption), (by assumption)⟩ (fun z => z.1.elim (by assumption) (fun y => by first | exact absurd y.1 (by assumption) | exact y.2 (by assumption))) (by assumption) | exact mPass_0 (fun z => by first | exact z.1 (by assumption) | exact absurd z.2.1 (by assumption) | exact absurd z.2.2 (by assumption)))⟩
        · refine g_iload_n X 3 dX5_passChute_64 rfl rfl ?_
          refine g_bipush X (v := nI 15) dX5_passChute_65 (by decide) ?_
          refine g_icmp_ne X 87 dX5_passChute_67 (by decide) (nI_eq (by omega) (by omega)) (fun c_10 => ?_) (fun c_10 => ?_)
          · refine g_iconst X (v := nI 0) dX5_passChute_87 (by decide) ?_
            refine g_istore X [(4, .int (nI 0)), (3, .int (nI (u 12 (((c0 * (u 1 0)) + ((u 1 0) / 2)) / 16)))), (2, .int (nI (((c0 * (u 1 0)) + ((u 1 0) / 2)) / 16))), (0, .ref (al 10 0)), (1, .int (nI c0))] dX5_passChute_88 (by decide) rfl ?_
            refine g_iload X 0 dX5_passChute_90 rfl ?_
            refine g_if_eq X 113 dX5_passChute_92 (by decide) (n0_eq (by omega)) (fun c_11 => ?_) (fun c_11 => ?_)
            · refine g_aload_n X 3 dX5_passChute_113 rfl rfl ?_
              refine g_get X 10 0 cm10 rfl 9 (by decide) hiX5 (by decide +kernel) rfl rfl dX5_passChute_114 ?_
              refine g_iload_n X 1 dX5_passChute_117 rfl rfl ?_
              refine g_iald X 14 0 cm14 (u 12 (((c0 * (u 1 0)) + ((u 1 0) / 2)) / 16)) (by omega) (by decide) rfl dX5_passChute_118 ?_
              refine g_iload_n X 4 dX5_passChute_119 rfl rfl ?_
              refine g_icmp_ne X 133 dX5_passChute_120 (by decide) (Iff.rfl) (fun c_12 => ?_) (fun c_12 => ?_)
              · exact g_vret X rfl dX5_passChute_133 ⟨rfl, rfl, congrArg _ (by  first | contradiction | exact mPass_1 ⟨(by assumption), (by assumption), (by assumption)⟩ (Or.inl (by assumption)) (by assumption) | exact mPass_1 ⟨(by assumption), (by assumption), (by assumption)⟩ (Or.inr ⟨(by assumption), (by assumption)⟩) (by assumption) | exact mPass_2 ⟨(by assumption), (by assumption), (by assumption)⟩ (fun z => absurd z.2 (by assumption)) (by assumption) | exact mPass_3 ⟨(by assumption), (by assumption), (by assumption)⟩ (fun z => absurd z.2 (by assumption)) (by assumption) | exact mPass_3 ⟨(by assumption), (by assumption), (by assumption)⟩ (fun z => z.1.elim (by assumption) (fun y => by first | exact absurd y.1 (by assumption) | exact y.2 (by assumption))) (by assumption) | exact mPass_0 (fun z => by first | exact z.1 (by assumption) | exact absurd z.2.1 (by assumption) | exact absurd z.2.2 (by assumption)))⟩
              · refine g_aload_n X 3 dX5_passChute_123 rfl rfl ?_
                refine g_get X 10 0 cm10 rfl 12 (by decide) hiX5 (by decide +kernel) rfl rfl dX5_passChute_124 ?_
                refine g_iload_n X 1 dX5_passChute_127 rfl rfl ?_
                refine g_dup2 X dX5_passChute_128 rfl rfl ?_
                refine g_iald X 17 0 cm17 (u 12 (((c0 * (u 1 0)) + ((u 1 0) / 2)) / 16)) (by omega) (by decide) rfl dX5_passChute_129 ?_
                refine g_iconst X (v := nI 1) dX5_passChute_130 (by decide) ?_
                refine g_iadd X dX5_passChute_131 (nI_add _ _) ?_
                refine g_iast X 17 0 cm17 (u 12 (((c0 * (u 1 0)) + ((u 1 0) / 2)) / 16)) (by omega) (by decide) _ um_a17 dX5_passChute_132 ?_
                generalize hu_13 : st u 17 (u 12 (((c0 * (u 1 0)) + ((u 1 0) / 2)) / 16)) ((u 17 (u 12 (((c0 * (u 1 0)) + ((u 1 0) / 2)) / 16))) + 1) = u_13
                exact g_vret X rfl dX5_passChute_133 ⟨rfl, rfl, congrArg _ (by subst hu_13; first | contradiction | exact mPass_1 ⟨(by assumption), (by assumption), (by assumption)⟩ (Or.inl (by assumption)) (by assumption) | exact mPass_1 ⟨(by assumption), (by assumption), (by assumption)⟩ (Or.inr ⟨(by assumption), (by assumption)⟩) (by assumption) | exact mPass_2 ⟨(by assumption), (by assumption), (by assumption)⟩ (fun z => absurd z.2 (by assumption)) (by assumption) | exact mPass_3 ⟨(by assumption), (by assumption), (by assumption)⟩ (fun z => absurd z.2 (by assumption)) (by assumption) | exact mPass_3 ⟨(by assumption), (by assumption), (by assumption)⟩ (fun z => z.1.elim (by assumption) (fun y => by first | exact absurd y.1 (by assumption) | exact y.2 (by assumption))) (by assumption) | exact mPass_0 (fun z => by first | exact z.1 (by assumption) | exact absurd z.2.1 (by assumption) | exact absurd z.2.2 (by assumption)))⟩
            · exact absurd c_11 (by decide)
          · refine g_aload_n X 2 dX5_passChute_70 rfl rfl ?_
            refine g_get X 10 0 cm10 rfl 12 (by decide) hiX5 (by decide +kernel) rfl rfl dX5_passChute_71 ?_
            refine g_iload_n X 0 dX5_passChute_74 rfl rfl ?_
            refine g_iald X 17 0 cm17 (u 12 (((c0 * (u 1 0)) + ((u 1 0) / 2)) / 16)) (by omega) (by decide) rfl dX5_passChute_75 ?_
            refine g_aload_n X 2 dX5_passChute_76 rfl rfl ?_
            refine g_get X 10 0 cm10 rfl 2 (by decide) hiX5 (by decide +kernel) rfl rfl dX5_passChute_77 ?_
            refine g_icmp_lt X 87 dX5_passChute_80 (by decide) (Iff.rfl) (fun c_14 => ?_) (fun c_14 => ?_)
            · refine g_iconst X (v := nI 0) dX5_passChute_87 (by decide) ?_
              refine g_istore X [(4, .int (nI 0)), (3, .int (nI (u 12 (((c0 * (u 1 0)) + ((u 1 0) / 2)) / 16)))), (2, .int (nI (((c0 * (u 1 0)) + ((u 1 0) / 2)) / 16))), (0, .ref (al 10 0)), (1, .int (nI c0))] dX5_passChute_88 (by decide) rfl ?_
              refine g_iload X 0 dX5_passChute_90 rfl ?_
              refine g_if_eq X 113 dX5_passChute_92 (by decide) (n0_eq (by omega)) (fun c_15 => ?_) (fun c_15 => ?_)
              · refine g_aload_n X 3 dX5_passChute_113 rfl rfl ?_
                refine g_get X 10 0 cm10 rfl 9 (by decide) hiX5 (by decide +kernel) rfl rfl dX5_passChute_114 ?_
                refine g_iload_n X 1 dX5_passChute_117 rfl rfl ?_
                refine g_iald X 14 0 cm14 (u 12 (((c0 * (u 1 0)) + ((u 1 0) / 2)) / 16)) (by omega) (by decide) rfl dX5_passChute_118 ?_
                refine g_iload_n X 4 dX5_passChute_119 rfl rfl ?_
                refine g_icmp_ne X 133 dX5_passChute_120 (by decide) (Iff.rfl) (fun c_16 => ?_) (fun c_16 => ?_)
                · exact g_vret X rfl dX5_passChute_133 ⟨rfl, rfl, congrArg _ (by  first | contradiction | exact mPass_1 ⟨(by assumption), (by assumption), (by assumption)⟩ (Or.inl (by assumption)) (by assumption) | exact mPass_1 ⟨(by assumption), (by assumption), (by assumption)⟩ (Or.inr ⟨(by assumption), (by assumption)⟩) (by assumption) | exact mPass_2 ⟨(by assumption), (by assumption), (by assumption)⟩ (fun z => absurd z.2 (by assumption)) (by assumption) | exact mPass_3 ⟨(by assumption), (by assumption), (by assumption)⟩ (fun z => absurd z.2 (by assumption)) (by assumption) | exact mPass_3 ⟨(by assumption), (by assumption), (by assumption)⟩ (fun z => z.1.elim (by assumption) (fun y => by first | exact absurd y.1 (by assumption) | exact y.2 (by assumption))) (by assumption) | exact mPass_0 (fun z => by first | exact z.1 (by assumption) | exact absurd z.2.1 (by assumption) | exact absurd z.2.2 (by assumption)))⟩
                · refine g_aload_n X 3 dX5_passChute_123 rfl rfl ?_
                  refine g_get X 10 0 cm10 rfl 12 (by decide) hiX5 (by decide +kernel) rfl rfl dX5_passChute_124 ?_
                  refine g_iload_n X 1 dX5_passChute_127 rfl rfl ?_
                  refine g_dup2 X dX5_passChute_128 rfl rfl ?_
                  refine g_iald X 17 0 cm17 (u 12 (((c0 * (u 1 0)) + ((u 1 0) / 2)) / 16)) (by omega) (by decide) rfl dX5_passChute_129 ?_
                  refine g_iconst X (v := nI 1) dX5_passChute_130 (by decide) ?_
                  refine g_iadd X dX5_passChute_131 (nI_add _ _) ?_
                  refine g_iast X 17 0 cm17 (u 12 (((c0 * (u 1 0)) + ((u 1 0) / 2)) / 16)) (by omega) (by decide) _ um_a17 dX5_passChute_132 ?_
                  generalize hu_17 : st u 17 (u 12 (((c0 * (u 1 0)) + ((u 1 0) / 2)) / 16)) ((u 17 (u 12 (((c0 * (u 1 0)) + ((u 1 0) / 2)) / 16))) + 1) = u_17
                  exact g_vret X rfl dX5_passChute_133 ⟨rfl, rfl, congrArg _ (by subst hu_17; first | contradiction | exact mPass_1 ⟨(by assumption), (by assumption), (by assumption)⟩ (Or.inl (by assumption)) (by assumption) | exact mPass_1 ⟨(by assumption), (by assumption), (by assumption)⟩ (Or.inr ⟨(by assumption), (by assumption)⟩) (by assumption) | exact mPass_2 ⟨(by assumption), (by assumption), (by assumption)⟩ (fun z => absurd z.2 (by assumption)) (by assumption) | exact mPass_3 ⟨(by assumption), (by assumption), (by assumption)⟩ (fun z => absurd z.2 (by assumption)) (by assumption) | exact mPass_3 ⟨(by assumption), (by assumption), (by assumption)⟩ (fun z => z.1.elim (by assumption) (fun y => by first | exact absurd y.1 (by assumption) | exact y.2 (by assumption))) (by assumption) | exact mPass_0 (fun z => by first | exact z.1 (by assumption) | exact absurd z.2.1 (by assumption) | exact absurd z.2.2 (by assumption)))⟩
              · exact absurd c_15 (by decide)
            · refine g_iconst X (v := nI 1) dX5_passChute_83 (by decide) ?_
              refine g_goto X 88 dX5_passChute_84 (by decide) ?_
              refine g_istore X [(4, .int (nI 1)), (3, .int (nI (u 12 (((c0 * (u 1 0)) + ((u 1 0) / 2)) / 16)))), (2, .int (nI (((c0 * (u 1 0)) + ((u 1 0) / 2)) / 16))), (0, .ref (al 10 0)), (1, .int (nI c0))] dX5_passChute_88 (by decide) rfl ?_
              refine g_iload X 0 dX5_passChute_90 rfl ?_
              refine g_if_eq X 113 dX5_passChute_92 (by decide) (n0_eq (by omega)) (fun c_18 => ?_) (fun c_18 => ?_)
              · exact absurd c_18 (by decide)
              · refine g_aload_n X 3 dX5_passChute_95 rfl rfl ?_
                refine g_iload_n X 4 dX5_passChute_96 rfl rfl ?_
                refine g_callDV1 (n := 1) X 10 0 [.int (nI c0)] cm10 rfl (m_hasRoom c0 (by omega)) gX5_passChute_X5_hasRoom rfl ⟨rfl, rfl⟩ (by decide +kernel) ⟨by decide, by decide⟩ rfl (Nat.le_of_ble_eq_true rfl) dX5_passChute_97 ⟨Nat.zero_le _, Nat.zero_le _⟩ _ rfl ?_
                refine g_if_eq X 113 dX5_passChute_100 (by decide) (bN_eq0) (fun c_19 => ?_) (fun c_19 => ?_)
                · refine g_aload_n X 3 dX5_passChute_113 rfl rfl ?_
                  refine g_get X 10 0 cm10 rfl 9 (by decide) hiX5 (by decide +kernel) rfl rfl dX5_passChute_114 ?_
                  refine g_iload_n X 1 dX5_passChute_117 rfl rfl ?_
                  refine g_iald X 14 0 cm14 (u 12 (((c0 * (u 1 0)) + ((u 1 0) / 2)) / 16)) (by omega) (by decide) rfl dX5_passChute_118 ?_
                  refine g_iload_n X 4 dX5_passChute_119 rfl rfl ?_
                  refine g_icmp_ne X 133 dX5_passChute_120 (by decide) (Iff.rfl) (fun c_20 => ?_) (fun c_20 => ?_)
                  · exact g_vret X rfl dX5_passChute_133 ⟨rfl, rfl, congrArg _ (by  first | contradiction | exact mPass_1 ⟨(by assumption), (by assumption), (by assumption)⟩ (Or.inl (by assumption)) (by assumption) | exact mPass_1 ⟨(by assumption), (by assumption), (by assumption)⟩ (Or.inr ⟨(by assumption), (by assumption)⟩) (by assumption) | exact mPass_2 ⟨(by assumption), (by assumption), (by assumption)⟩ (fun z => absurd z.2 (by assumption)) (by assumption) | exact mPass_3 ⟨(by assumption), (by assumption), (by assumption)⟩ (fun z => absurd z.2 (by assumption)) (by assumption) | exact mPass_3 ⟨(by assumption), (by assumption), (by assumption)⟩ (fun z => z.1.elim (by assumption) (fun y => by first | exact absurd y.1 (by assumption) | exact y.2 (by assumption))) (by assumption) | exact mPass_0 (fun z => by first | exact z.1 (by assumption) | exact absurd z.2.1 (by assumption) | exact absurd z.2.2 (by assumption)))⟩
                  · refine g_aload_n X 3 dX5_passChute_123 rfl rfl ?_
                    refine g_get X 10 0 cm10 rfl 12 (by decide) hiX5 (by decide +kernel) rfl rfl dX5_passChute_124 ?_
                    refine g_iload_n X 1 dX5_passChute_127 rfl rfl ?_
                    refine g_dup2 X dX5_passChute_128 rfl rfl ?_
                    refine g_iald X 17 0 cm17 (u 12 (((c0 * (u 1 0)) + ((u 1 0) / 2)) / 16)) (by omega) (by decide) rfl dX5_passChute_129 ?_
                    refine g_iconst X (v := nI 1) dX5_passChute_130 (by decide) ?_
                    refine g_iadd X dX5_passChute_131 (nI_add _ _) ?_
                    refine g_iast X 17 0 cm17 (u 12 (((c0 * (u 1 0)) + ((u 1 0) / 2)) / 16)) (by omega) (by decide) _ um_a17 dX5_passChute_132 ?_
                    generalize hu_21 : st u 17 (u 12 (((c0 * (u 1 0)) + ((u 1 0) / 2)) / 16)) ((u 17 (u 12 (((c0 * (u 1 0)) + ((u 1 0) / 2)) / 16))) + 1) = u_21
                    exact g_vret X rfl dX5_passChute_133 ⟨rfl, rfl, congrArg _ (by subst hu_21; first | contradiction | exact mPass_1 ⟨(by assumption), (by assumption), (by assumption)⟩ (Or.inl (by assumption)) (by assumption) | exact mPass_1 ⟨(by assumption), (by assumption), (by assumption)⟩ (Or.inr ⟨(by assumption), (by assumption)⟩) (by assumption) | exact mPass_2 ⟨(by assumption), (by assumption), (by assumption)⟩ (fun z => absurd z.2 (by assumption)) (by assumption) | exact mPass_3 ⟨(by assumption), (by assumption), (by assumption)⟩ (fun z => absurd z.2 (by assumption)) (by assumption) | exact mPass_3 ⟨(by assumption), (by assumption), (by assumption)⟩ (fun z => z.1.elim (by assumption) (fun y => by first | exact absurd y.1 (by assumption) | exact y.2 (by assumption))) (by assumption) | exact mPass_0 (fun z => by first | exact z.1 (by assumption) | exact absurd z.2.1 (by assumption) | exact absurd z.2.2 (by assumption)))⟩
                · have c_19 := Decidable.of_not_not c_19
                  have hg9 := hJ.go (i := u 12 ((c0 * u 1 0 + u 1 0 / 2) / 16)) (by assumption) (by omega) (by assumption)
                  refine g_aload_n X 3 dX5_passChute_103 rfl rfl ?_
                  refine g_iload_n X 1 dX5_passChute_104 rfl rfl ?_
                  refine g_iload_n X 2 dX5_passChute_105 rfl rfl ?_
                  refine g_iload_n X 4 dX5_passChute_106 rfl rfl ?_
                  refine g_callDV0 (n := 3) X 10 0 [.int (nI (u 12 (((c0 * (u 1 0)) + ((u 1 0) / 2)) / 16))), .int (nI (((c0 * (u 1 0)) + ((u 1 0) / 2)) / 16)), .int (nI c0)] cm10 rfl (m_goOut (u 12 (((c0 * (u 1 0)) + ((u 1 0) / 2)) / 16)) (((c0 * (u 1 0)) + ((u 1 0) / 2)) / 16) c0 (by omega) (by omega) (by omega) (by omega) (by omega) (by omega)) gX5_passChute_X5_goOut rfl ⟨rfl, rfl⟩ (by decide +kernel) ⟨by decide, by decide⟩ rfl (Nat.le_of_ble_eq_true rfl) dX5_passChute_107 ⟨Nat.zero_le _, Nat.zero_le _⟩ _ rfl ?_
                  generalize hu_22 : mOut u (u 12 (((c0 * (u 1 0)) + ((u 1 0) / 2)) / 16)) (((c0 * (u 1 0)) + ((u 1 0) / 2)) / 16) c0 = u_22
                  refine g_goto X 133 dX5_passChute_110 (by decide) ?_
                  exact g_vret X rfl dX5_passChute_133 ⟨rfl, rfl, congrArg _ (by subst hu_22; first | contradiction | exact mPass_1 ⟨(by assumption), (by assumption), (by assumption)⟩ (Or.inl (by assumption)) (by assumption) | exact mPass_1 ⟨(by assumption), (by assumption), (by assumption)⟩ (Or.inr ⟨(by assumption), (by assumption)⟩) (by assumption) | exact mPass_2 ⟨(by assumption), (by assumption), (by assumption)⟩ (fun z => absurd z.2 (by assumption)) (by assumption) | exact mPass_3 ⟨(by assumption), (by assumption), (by assumption)⟩ (fun z => absurd z.2 (by assumption)) (by assumption) | exact mPass_3 ⟨(by assumption), (by assumption), (by assumption)⟩ (fun z => z.1.elim (by assumption) (fun y => by first | exact absurd y.1 (by assumption) | exact y.2 (by assumption))) (by assumption) | exact mPass_0 (fun z => by first | exact z.1 (by assumption) | exact absurd z.2.1 (by assumption) | exact absurd z.2.2 (by assumption)))⟩
      · exact g_vret X rfl dX5_passChute_53 ⟨rfl, rfl, congrArg _ (by  first | contradiction | exact mPass_1 ⟨(by assumption), (by assumption), (by assumption)⟩ (Or.inl (by assumption)) (by assumption) | exact mPass_1 ⟨(by assumption), (by assumption), (by assumption)⟩ (Or.inr ⟨(by assumption), (by assumption)⟩) (by assumption) | exact mPass_2 ⟨(by assumption), (by assumption), (by assumption)⟩ (fun z => absurd z.2 (by assumption)) (by assumption) | exact mPass_3 ⟨(by assumption), (by assumption), (by assumption)⟩ (fun z => absurd z.2 (by assumption)) (by assumption) | exact mPass_3 ⟨(by assumption), (by assumption), (by assumption)⟩ (fun z => z.1.elim (by assumption) (fun y => by first | exact absurd y.1 (by assumption) | exact y.2 (by assumption))) (by assumption) | exact mPass_0 (fun z => by first | exact z.1 (by assumption) | exact absurd z.2.1 (by assumption) | exact absurd z.2.2 (by assumption)))⟩

set_option maxRecDepth 100000 in
set_option maxHeartbeats 4000000 in
/-- putOn -/
theorem m_putOn {l : Launch} {D : va_G} {ta : Nat → ClassId} {pl : Nat → Nat} {bs : Nat} {al : Ad} {Z : Wo} {u : St} (k : Nat) (hJ : Jv u) (h : k < 4) : GD l D ta pl bs yX5_putOn wsX5_putOn (rmF 1 23) [.ref (al 10 0), .int (nI k)] al (mM Z ta al u) none (mM Z ta al (mPut u k)) := by
  refine GM.of (by decide) rfl (Nat.le_of_ble_eq_true rfl) ?_
  intro p e s m args below meth c X hnm
  have hiX5 : ∀ w ∈ u_ws RX5 TX5 22, w ∈ wsX5_putOn := by decide +kernel
  obtain ⟨h1, h2, h5, h31, h32, hJ6, h6⟩ := id hJ.w
  refine g_lv (lv' := [(0, .ref (al 10 0)), (1, .int (nI k))]) [0, 1] rfl ?_
  refine g_aload_n X 0 dX5_putOn_0 rfl rfl ?_
  refine g_iload_n X 1 dX5_putOn_1 rfl rfl ?_
  refine g_callDV1 (n := 1) X 10 0 [.int (nI k)] cm10 rfl (m_firstWaiting k (by omega)) gX5_putOn_X5_firstWaiting rfl ⟨rfl, rfl⟩ (by decide +kernel) ⟨by decide, by decide⟩ rfl (Nat.le_of_ble_eq_true rfl) dX5_putOn_2 ⟨Nat.zero_le _, Nat.zero_le _⟩ _ rfl ?_
  have hf9 := mF_le (v := u) (k := k) (u 5 0)
  have hm9 : k * u 1 0 ≤ 3 * u 1 0 := Nat.mul_le_mul_right _ (by omega)
  have hv9 := hJ6 (k * u 1 0 / 4)
  refine g_istore_n X [(2, .int (nI (mF u k (u 5 0)))), (0, .ref (al 10 0)), (1, .int (nI k))] dX5_putOn_5 rfl (by decide) rfl ?_
  refine g_iload_n X 2 dX5_putOn_6 rfl rfl ?_
  refine g_aload_n X 1 dX5_putOn_7 rfl rfl ?_
  refine g_get X 10 0 cm10 rfl 1 (by decide) hiX5 (by decide +kernel) rfl rfl dX5_putOn_8 ?_
  refine g_imul X dX5_putOn_11 (pk_mul _ _) ?_
  refine g_iconst X (v := nI 4) dX5_putOn_12 (by decide) ?_
  refine g_idiv X dX5_putOn_13 (nI_ne0 (by omega) (by omega)) (pk_div (by omega) (by omega) (by omega)) ?_
  refine g_istore_n X [(3, .int (nI ((k * (u 1 0)) / 4))), (2, .int (nI (mF u k (u 5 0)))), (0, .ref (al 10 0)), (1, .int (nI k))] dX5_putOn_14 rfl (by decide) rfl ?_
  refine g_iload_n X 1 dX5_putOn_15 rfl rfl ?_
  refine g_if_eq X 28 dX5_putOn_16 (by decide) (n0_eq (by omega)) (fun c_1 => ?_) (fun c_1 => ?_)
  · exact g_vret X rfl dX5_putOn_28 ⟨rfl, rfl, congrArg _ (by rw [mPut, if_neg (fun z => by first | exact z.1 (by assumption) | exact absurd z.2.1 (by assumption) | exact z.2.2 ⟨(by assumption), Or.inl (by assumption)⟩ | exact z.2.2 ⟨(by assumption), Or.inr (by assumption)⟩)])⟩
  · refine g_aload_n X 2 dX5_putOn_19 rfl rfl ?_
    refine g_get X 10 0 cm10 rfl 4 (by decide) hiX5 (by decide +kernel) rfl rfl dX5_putOn_20 ?_
    refine g_iload_n X 0 dX5_putOn_23 rfl rfl ?_
    refine g_iald X 12 0 cm12 ((k * (u 1 0)) / 4) (by omega) (by decide) rfl dX5_putOn_24 ?_
    refine g_if_eq X 29 dX5_putOn_25 (by decide) (n0_eq (by omega)) (fun c_2 => ?_) (fun c_2 => ?_)
    · refine g_aload_n X 2 dX5_putOn_29 rfl rfl ?_
      refine g_get X 10 0 cm10 rfl 8 (by decide) hiX5 (by decide +kernel) rfl rfl dX5_putOn_30 ?_
      refine g_iload_n X 1 dX5_putOn_33 rfl rfl ?_
      refine g_iald X 13 0 cm13 (mF u k (u 5 0)) (by omega) (by decide) rfl dX5_putOn_34 ?_
      refine g_iconst X (v := nI 2) dX5_putOn_35 (by decide) ?_
      refine g_icmp_ne X 61 dX5_putOn_36 (by decide) (Iff.rfl) (fun c_3 => ?_) (fun c_3 => ?_)
      · refine g_aload_n X 2 dX5_putOn_61 rfl rfl ?_
        refine g_get X 10 0 cm10 rfl 4 (by decide) hiX5 (by decide +kernel) rfl rfl dX5_putOn_62 ?_
        refine g_iload_n X 0 dX5_putOn_65 rfl rfl ?_
        refine g_iload_n X 1 dX5_putOn_66 rfl rfl ?_
        refine g_iast X 12 0 cm12 ((k * (u 1 0)) / 4) (by omega) (by decide) _ um_a12 dX5_putOn_67 ?_
        generalize hu_4 : st u 12 ((k * (u 1 0)) / 4) (mF u k (u 5 0)) = u_4
        have k1u_4 : u_4 1 0 = u 1 0 := by rw [← hu_4]; first | rfl | exact st_nf (by omega)
        refine g_aload_n X 2 dX5_putOn_68 rfl rfl ?_
        refine g_get X 10 0 cm10 rfl 8 (by decide) hiX5 (by decide +kernel) rfl rfl dX5_putOn_69 ?_
        refine g_iload_n X 1 dX5_putOn_72 rfl rfl ?_
        refine g_iald X 13 0 cm13 (mF u k (u 5 0)) (by omega) (by decide) rfl dX5_putOn_73 ?_
        refine g_iconst X (v := nI 2) dX5_putOn_74 (by decide) ?_
        refine g_icmp_ne X 89 dX5_putOn_75 (by decide) (Iff.rfl) (fun c_5 => ?_) (fun c_5 => ?_)
        · refine g_aload_n X 2 dX5_putOn_89 rfl rfl ?_
          refine g_get X 10 0 cm10 rfl 11 (by decide) hiX5 (by decide +kernel) rfl rfl dX5_putOn_90 ?_
          refine g_iload_n X 1 dX5_putOn_93 rfl rfl ?_
          refine g_aload_n X 2 dX5_putOn_94 rfl rfl ?_
          refine g_get X 10 0 cm10 rfl 3 (by decide) hiX5 (by decide +kernel) rfl rfl dX5_putOn_95 ?_
          refine g_iload_n X 0 dX5_putOn_98 rfl rfl ?_
          refine g_iald X 11 0 cm11 ((k * (u 1 0)) / 4) (by omega) (by decide) rfl dX5_putOn_99 ?_
          refine g_iast X 16 0 cm16 (mF u k (u 5 0)) (by omega) (by decide) _ um_a16 dX5_putOn_100 ?_
          generalize hu_6 : st u_4 16 (mF u k (u 5 0)) (u_4 11 ((k * (u 1 0)) / 4)) = u_6
          have k1u_6 : u_6 1 0 = u_4 1 0 := by rw [← hu_6]; first | rfl | exact st_nf (by omega)
          refine g_aload_n X 2 dX5_putOn_101 rfl rfl ?_
          refine g_get X 10 0 cm10 rfl 10 (by decide) hiX5 (by decide +kernel) rfl rfl dX5_putOn_102 ?_
          refine g_iload_n X 1 dX5_putOn_105 rfl rfl ?_
          refine g_iconst X (v := nI 1) dX5_putOn_106 (by decide) ?_
          refine g_iast X 15 0 cm15 (mF u k (u 5 0)) (by omega) (by decide) _ um_a15 dX5_putOn_107 ?_
          generalize hu_7 : st u_6 15 (mF u k (u 5 0)) 1 = u_7
          have k1u_7 : u_7 1 0 = u_6 1 0 := by rw [← hu_7]; first | rfl | exact st_nf (by omega)
          refine g_aload_n X 2 dX5_putOn_108 rfl rfl ?_
          refine g_get X 10 0 cm10 rfl 14 (by decide) hiX5 (by decide +kernel) rfl rfl dX5_putOn_109 ?_
          refine g_iload_n X 3 dX5_putOn_112 rfl rfl ?_
          refine g_dup2 X dX5_putOn_113 rfl rfl ?_
          refine g_lald X 19 0 cm19 k (by omega) (by decide) rfl dX5_putOn_114 ?_
          refine g_lconst X (v := lN 1) dX5_putOn_115 (by decide) ?_
          refine g_ladd X dX5_putOn_116 (lN_add _ _) ?_
          refine g_last X 19 0 cm19 k (by omega) (by decide) _ um_a19 dX5_putOn_117 ?_
          generalize hu_8 : st u_7 19 k ((u_7 19 k) + 1) = u_8
          have k1u_8 : u_8 1 0 = u_7 1 0 := by rw [← hu_8]; first | rfl | exact st_nf (by omega)
          exact g_vret X rfl dX5_putOn_118 ⟨rfl, rfl, congrArg _ (by subst hu_4; subst hu_6; subst hu_7; subst hu_8; rw [mPut, if_pos ⟨(by assumption), (by assumption), fun z => by first | exact absurd z.1 (by assumption) | exact z.2.elim (by assumption) (fun y => y (by assumption))⟩]; simp only [setLd, c_5, if_true, if_false])⟩
        · refine g_aload_n X 2 dX5_putOn_78 rfl rfl ?_
          refine g_get X 10 0 cm10 rfl 4 (by decide) hiX5 (by decide +kernel) rfl rfl dX5_putOn_79 ?_
          refine g_aload_n X 2 dX5_putOn_82 rfl rfl ?_
          refine g_iload_n X 0 dX5_putOn_83 rfl rfl ?_
          have hq_9 : mB u_4 ((k * (u 1 0)) / 4) < u_4 1 0 := mB_lt (by omega) (by omega)
          refine g_callDV1 (n := 1) X 10 0 [.int (nI ((k * (u 1 0)) / 4))] cm10 rfl (m_before ((k * (u 1 0)) / 4) (by omega) (by omega) (by omega)) gX5_putOn_X5_before rfl ⟨rfl, rfl⟩ (by decide +kernel) ⟨by decide, by decide⟩ rfl (Nat.le_of_ble_eq_true rfl) dX5_putOn_84 ⟨Nat.zero_le _, Nat.zero_le _⟩ _ rfl ?_
          refine g_iload_n X 1 dX5_putOn_87 rfl rfl ?_
          refine g_iast X 12 0 cm12 (mB u_4 ((k * (u 1 0)) / 4)) (by omega) (by decide) _ um_a12 dX5_putOn_88 ?_
          generalize hu_10 : st u_4 12 (mB u_4 ((k * (u 1 0)) / 4)) (mF u k (u 5 0)) = u_10
          have k1u_10 : u_10 1 0 = u_4 1 0 := by rw [← hu_10]; first | rfl | exact st_nf (by omega)
          refine g_aload_n X 2 dX5_putOn_89 rfl rfl ?_
          refine g_get X 10 0 cm10 rfl 11 (by decide) hiX5 (by decide +kernel) rfl rfl dX5_putOn_90 ?_
          refine g_iload_n X 1 dX5_putOn_93 rfl rfl ?_
          refine g_aload_n X 2 dX5_putOn_94 rfl rfl ?_
          refine g_get X 10 0 cm10 rfl 3 (by decide) hiX5 (by decide +kernel) rfl rfl dX5_putOn_95 ?_
          refine g_iload_n X 0 dX5_putOn_98 rfl rfl ?_
          refine g_iald X 11 0 cm11 ((k * (u 1 0)) / 4) (by omega) (by decide) rfl dX5_putOn_99 ?_
          refine g_iast X 16 0 cm16 (mF u k (u 5 0)) (by omega) (by decide) _ um_a16 dX5_putOn_100 ?_
          generalize hu_11 : st u_10 16 (mF u k (u 5 0)) (u_10 11 ((k * (u 1 0)) / 4)) = u_11
          have k1u_11 : u_11 1 0 = u_10 1 0 := by rw [← hu_11]; first | rfl | exact st_nf (by omega)
          refine g_aload_n X 2 dX5_putOn_101 rfl rfl ?_
          refine g_get X 10 0 cm10 rfl 10 (by decide) hiX5 (by decide +kernel) rfl rfl dX5_putOn_102 ?_
          refine g_iload_n X 1 dX5_putOn_105 rfl rfl ?_
          refine g_iconst X (v := nI 1) dX5_putOn_106 (by decide) ?_
          refine g_iast X 15 0 cm15 (mF u k (u 5 0)) (by omega) (by decide) _ um_a15 dX5_putOn_107 ?_
          generalize hu_12 : st u_11 15 (mF u k (u 5 0)) 1 = u_12
          have k1u_12 : u_12 1 0 = u_11 1 0 := by rw [← hu_12]; first | rfl | exact st_nf (by omega)
          refine g_aload_n X 2 dX5_putOn_108 rfl rfl ?_
          refine g_get X 10 0 cm10 rfl 14 (by decide) hiX5 (by decide +kernel) rfl rfl dX5_putOn_109 ?_
          refine g_iload_n X 3 dX5_putOn_112 rfl rfl ?_
          refine g_dup2 X dX5_putOn_113 rfl rfl ?_
          refine g_lald X 19 0 cm19 k (by omega) (by decide) rfl dX5_putOn_114 ?_
          refine g_lconst X (v := lN 1) dX5_putOn_115 (by decide) ?_
          refine g_ladd X dX5_putOn_116 (lN_add _ _) ?_
          refine g_last X 19 0 cm19 k (by omega) (by decide) _ um_a19 dX5_putOn_117 ?_
          generalize hu_13 : st u_12 19 k ((u_12 19 k) + 1) = u_13
          have k1u_13 : u_13 1 0 = u_12 1 0 := by rw [← hu_13]; first | rfl | exact st_nf (by omega)
          exact g_vret X rfl dX5_putOn_118 ⟨rfl, rfl, congrArg _ (by subst hu_4; subst hu_10; subst hu_11; subst hu_12; subst hu_13; rw [mPut, if_pos ⟨(by assumption), (by assumption), fun z => by first | exact absurd z.1 (by assumption) | exact z.2.elim (by assumption) (fun y => y (by assumption))⟩]; simp only [setLd, c_5, if_true, if_false])⟩
      · refine g_aload_n X 2 dX5_putOn_39 rfl rfl ?_
        refine g_get X 10 0 cm10 rfl 1 (by decide) hiX5 (by decide +kernel) rfl rfl dX5_putOn_40 ?_
        refine g_iconst X (v := nI 1) dX5_putOn_43 (by decide) ?_
        refine g_icmp_eq X 60 dX5_putOn_44 (by decide) (nI_eq (by omega) (by omega)) (fun c_14 => ?_) (fun c_14 => ?_)
        · exact g_vret X rfl dX5_putOn_60 ⟨rfl, rfl, congrArg _ (by rw [mPut, if_neg (fun z => by first | exact z.1 (by assumption) | exact absurd z.2.1 (by assumption) | exact z.2.2 ⟨(by assumption), Or.inl (by assumption)⟩ | exact z.2.2 ⟨(by assumption), Or.inr (by assumption)⟩)])⟩
        · refine g_aload_n X 2 dX5_putOn_47 rfl rfl ?_
          refine g_get X 10 0 cm10 rfl 4 (by decide) hiX5 (by decide +kernel) rfl rfl dX5_putOn_48 ?_
          refine g_aload_n X 2 dX5_putOn_51 rfl rfl ?_
          refine g_iload_n X 0 dX5_putOn_52 rfl rfl ?_
          have hq_15 : mB u ((k * (u 1 0)) / 4) < u 1 0 := mB_lt (by omega) (by omega)
          refine g_callDV1 (n := 1) X 10 0 [.int (nI ((k * (u 1 0)) / 4))] cm10 rfl (m_before ((k * (u 1 0)) / 4) (by omega) (by omega) (by omega)) gX5_putOn_X5_before rfl ⟨rfl, rfl⟩ (by decide +kernel) ⟨by decide, by decide⟩ rfl (Nat.le_of_ble_eq_true rfl) dX5_putOn_53 ⟨Nat.zero_le _, Nat.zero_le _⟩ _ rfl ?_
          refine g_iald X 12 0 cm12 (mB u ((k * (u 1 0)) / 4)) (by omega) (by decide) rfl dX5_putOn_56 ?_
          have hv8 := hJ6 (mB u (k * u 1 0 / 4))
          refine g_if_eq X 61 dX5_putOn_57 (by decide) (n0_eq (by omega)) (fun c_16 => ?_) (fun c_16 => ?_)
          · refine g_aload_n X 2 dX5_putOn_61 rfl rfl ?_
            refine g_get X 10 0 cm10 rfl 4 (by decide) hiX5 (by decide +kernel) rfl rfl dX5_putOn_62 ?_
            refine g_iload_n X 0 dX5_putOn_65 rfl rfl ?_
            refine g_iload_n X 1 dX5_putOn_66 rfl rfl ?_
            refine g_iast X 12 0 cm12 ((k * (u 1 0)) / 4) (by omega) (by decide) _ um_a12 dX5_putOn_67 ?_
            generalize hu_17 : st u 12 ((k * (u 1 0)) / 4) (mF u k (u 5 0)) = u_17
            have k1u_17 : u_17 1 0 = u 1 0 := by rw [← hu_17]; first | rfl | exact st_nf (by omega)
            refine g_aload_n X 2 dX5_putOn_68 rfl rfl ?_
            refine g_get X 10 0 cm10 rfl 8 (by decide) hiX5 (by decide +kernel) rfl rfl dX5_putOn_69 ?_
            refine g_iload_n X 1 dX5_putOn_72 rfl rfl ?_
            refine g_iald X 13 0 cm13 (mF u k (u 5 0)) (by omega) (by decide) rfl dX5_putOn_73 ?_
            refine g_iconst X (v := nI 2) dX5_putOn_74 (by decide) ?_
            refine g_icmp_ne X 89 dX5_putOn_75 (by decide) (Iff.rfl) (fun c_18 => ?_) (fun c_18 => ?_)
            · refine g_aload_n X 2 dX5_putOn_89 rfl rfl ?_
              refine g_get X 10 0 cm10 rfl 11 (by decide) hiX5 (by decide +kernel) rfl rfl dX5_putOn_90 ?_
              refine g_iload_n X 1 dX5_putOn_93 rfl rfl ?_
              refine g_aload_n X 2 dX5_putOn_94 rfl rfl ?_
              refine g_get X 10 0 cm10 rfl 3 (by decide) hiX5 (by decide +kernel) rfl rfl dX5_putOn_95 ?_
              refine g_iload_n X 0 dX5_putOn_98 rfl rfl ?_
              refine g_iald X 11 0 cm11 ((k * (u 1 0)) / 4) (by omega) (by decide) rfl dX5_putOn_99 ?_
              refine g_iast X 16 0 cm16 (mF u k (u 5 0)) (by omega) (by decide) _ um_a16 dX5_putOn_100 ?_
              generalize hu_19 : st u_17 16 (mF u k (u 5 0)) (u_17 11 ((k * (u 1 0)) / 4)) = u_19
              have k1u_19 : u_19 1 0 = u_17 1 0 := by rw [← hu_19]; first | rfl | exact st_nf (by omega)
              refine g_aload_n X 2 dX5_putOn_101 rfl rfl ?_
              refine g_get X 10 0 cm10 rfl 10 (by decide) hiX5 (by decide +kernel) rfl rfl dX5_putOn_102 ?_
              refine g_iload_n X 1 dX5_putOn_105 rfl rfl ?_
              refine g_iconst X (v := nI 1) dX5_putOn_106 (by decide) ?_
              refine g_iast X 15 0 cm15 (mF u k (u 5 0)) (by omega) (by decide) _ um_a15 dX5_putOn_107 ?_
              generalize hu_20 : st u_19 15 (mF u k (u 5 0)) 1 = u_20
              have k1u_20 : u_20 1 0 = u_19 1 0 := by rw [← hu_20]; first | rfl | exact st_nf (by omega)
              refine g_aload_n X 2 dX5_putOn_108 rfl rfl ?_
              refine g_get X 10 0 cm10 rfl 14 (by decide) hiX5 (by decide +kernel) rfl rfl dX5_putOn_109 ?_
              refine g_iload_n X 3 dX5_putOn_112 rfl rfl ?_
              refine g_dup2 X dX5_putOn_113 rfl rfl ?_
              refine g_lald X 19 0 cm19 k (by omega) (by decide) rfl dX5_putOn_114 ?_
              refine g_lconst X (v := lN 1) dX5_putOn_115 (by decide) ?_
              refine g_ladd X dX5_putOn_116 (lN_add _ _) ?_
              refine g_last X 19 0 cm19 k (by omega) (by decide) _ um_a19 dX5_putOn_117 ?_
              generalize hu_21 : st u_20 19 k ((u_20 19 k) + 1) = u_21
              have k1u_21 : u_21 1 0 = u_20 1 0 := by rw [← hu_21]; first | rfl | exact st_nf (by omega)
              exact g_vret X rfl dX5_putOn_118 ⟨rfl, rfl, congrArg _ (by subst hu_17; subst hu_19; subst hu_20; subst hu_21; rw [mPut, if_pos ⟨(by assumption), (by assumption), fun z => by first | exact absurd z.1 (by assumption) | exact z.2.elim (by assumption) (fun y => y (by assumption))⟩]; simp only [setLd, c_18, if_true, if_false])⟩
            · refine g_aload_n X 2 dX5_putOn_78 rfl rfl ?_
              refine g_get X 10 0 cm10 rfl 4 (by decide) hiX5 (by decide +kernel) rfl rfl dX5_putOn_79 ?_
              refine g_aload_n X 2 dX5_putOn_82 rfl rfl ?_
              refine g_iload_n X 0 dX5_putOn_83 rfl rfl ?_
              have hq_22 : mB u_17 ((k * (u 1 0)) / 4) < u_17 1 0 := mB_lt (by omega) (by omega)
              refine g_callDV1 (n := 1) X 10 0 [.int (nI ((k * (u 1 0)) / 4))] cm10 rfl (m_before ((k * (u 1 0)) / 4) (by omega) (by omega) (by omega)) gX5_putOn_X5_before rfl ⟨rfl, rfl⟩ (by decide +kernel) ⟨by decide, by decide⟩ rfl (Nat.le_of_ble_eq_true rfl) dX5_putOn_84 ⟨Nat.zero_le _, Nat.zero_le _⟩ _ rfl ?_
              refine g_iload_n X 1 dX5_putOn_87 rfl rfl ?_
              refine g_iast X 12 0 cm12 (mB u_17 ((k * (u 1 0)) / 4)) (by omega) (by decide) _ um_a12 dX5_putOn_88 ?_
              generalize hu_23 : st u_17 12 (mB u_17 ((k * (u 1 0)) / 4)) (mF u k (u 5 0)) = u_23
              have k1u_23 : u_23 1 0 = u_17 1 0 := by rw [← hu_23]; first | rfl | exact st_nf (by omega)
              refine g_aload_n X 2 dX5_putOn_89 rfl rfl ?_
              refine g_get X 10 0 cm10 rfl 11 (by decide) hiX5 (by decide +kernel) rfl rfl dX5_putOn_90 ?_
              refine g_iload_n X 1 dX5_putOn_93 rfl rfl ?_
              refine g_aload_n X 2 dX5_putOn_94 rfl rfl ?_
              refine g_get X 10 0 cm10 rfl 3 (by decide) hiX5 (by decide +kernel) rfl rfl dX5_putOn_95 ?_
              refine g_iload_n X 0 dX5_putOn_98 rfl rfl ?_
              refine g_iald X 11 0 cm11 ((k * (u 1 0)) / 4) (by omega) (by decide) rfl dX5_putOn_99 ?_
              refine g_iast X 16 0 cm16 (mF u k (u 5 0)) (by omega) (by decide) _ um_a16 dX5_putOn_100 ?_
              generalize hu_24 : st u_23 16 (mF u k (u 5 0)) (u_23 11 ((k * (u 1 0)) / 4)) = u_24
              have k1u_24 : u_24 1 0 = u_23 1 0 := by rw [← hu_24]; first | rfl | exact st_nf (by omega)
              refine g_aload_n X 2 dX5_putOn_101 rfl rfl ?_
              refine g_get X 10 0 cm10 rfl 10 (by decide) hiX5 (by decide +kernel) rfl rfl dX5_putOn_102 ?_
              refine g_iload_n X 1 dX5_putOn_105 rfl rfl ?_
              refine g_iconst X (v := nI 1) dX5_putOn_106 (by decide) ?_
              refine g_iast X 15 0 cm15 (mF u k (u 5 0)) (by omega) (by decide) _ um_a15 dX5_putOn_107 ?_
              generalize hu_25 : st u_24 15 (mF u k (u 5 0)) 1 = u_25
              have k1u_25 : u_25 1 0 = u_24 1 0 := by rw [← hu_25]; first | rfl | exact st_nf (by omega)
              refine g_aload_n X 2 dX5_putOn_108 rfl rfl ?_
              refine g_get X 10 0 cm10 rfl 14 (by decide) hiX5 (by decide +kernel) rfl rfl dX5_putOn_109 ?_
              refine g_iload_n X 3 dX5_putOn_112 rfl rfl ?_
              refine g_dup2 X dX5_putOn_113 rfl rfl ?_
              refine g_lald X 19 0 cm19 k (by omega) (by decide) rfl dX5_putOn_114 ?_
              refine g_lconst X (v := lN 1) dX5_putOn_115 (by decide) ?_
              refine g_ladd X dX5_putOn_116 (lN_add _ _) ?_
              refine g_last X 19 0 cm19 k (by omega) (by decide) _ um_a19 dX5_putOn_117 ?_
              generalize hu_26 : st u_25 19 k ((u_25 19 k) + 1) = u_26
              have k1u_26 : u_26 1 0 = u_25 1 0 := by rw [← hu_26]; first | rfl | exact st_nf (by omega)
              exact g_vret X rfl dX5_putOn_118 ⟨rfl, rfl, congrArg _ (by subst hu_17; subst hu_23; subst hu_24; subst hu_25; subst hu_26; rw [mPut, if_pos ⟨(by assumption), (by assumption), fun z => by first | exact absurd z.1 (by assumption) | exact z.2.elim (by assumption) (fun y => y (by assumption))⟩]; simp only [setLd, c_18, if_true, if_false])⟩
          · exact g_vret X rfl dX5_putOn_60 ⟨rfl, rfl, congrArg _ (by rw [mPut, if_neg (fun z => by first | exact z.1 (by assumption) | exact absurd z.2.1 (by assumption) | exact z.2.2 ⟨(by assumption), Or.inl (by assumption)⟩ | exact z.2.2 ⟨(by assumption), Or.inr (by assumption)⟩)])⟩
    · exact g_vret X rfl dX5_putOn_28 ⟨rfl, rfl, congrArg _ (by rw [mPut, if_neg (fun z => by first | exact z.1 (by assumption) | exact absurd z.2.1 (by assumption) | exact z.2.2 ⟨(by assumption), Or.inl (by assumption)⟩ | exact z.2.2 ⟨(by assumption), Or.inr (by assumption)⟩)])⟩
end
section
set_option maxRecDepth 100000 in
set_option maxHeartbeats 4000000 in
/-- the loop of turns at 31 -/
theorem l_turns3 {l : Launch} {D : va_G} {ta : Nat → ClassId} {pl : Nat → Nat} {bs : Nat} {al : Ad} {Z : Wo} {p : Program} {e : Env} {s : State} {m : MethodId} {args : Array Value} {below : List Frame} {meth : Method} {c : Code} {Q : State → Prop} {u : St} (X : Cx D ta pl bs 4 p s m args meth c cX5_turns wsX5_turns RX5 none) (t : Nat) (hnz : mNx u 4 ≠ 0) (K9 : WW D bs 4 p l e (rmF 2 46) s m args below meth c Q al (mM Z ta al u) 0 0 73 [(3, .int (nI 4)), (2, .int (nI (mNx u 4 - 1))), (1, .int (nI t)), (0, .ref (al 10 0))] []) : ∀ (n9 i : Nat), i ≤ 4 → 4 + 1 ≤ i + n9 → WW D bs 4 p l e (rmF 2 46) s m args below meth c Q al (mM Z ta al u) 0 0 31 [(3, .int (nI i)), (2, .int (rM (mNx u i))), (1, .int (nI t)), (0, .ref (al 10 0))] [] := by
  have hiX5 : ∀ w ∈ u_ws RX5 TX5 22, w ∈ wsX5_turns := by decide +kernel
  intro n9
  induction n9 with
  | zero => intro i h8 h9; exact absurd h9 (by omega)
  | succ n9 ih =>
    intro i h8 h9
    have hn9 := mNx_le (v := u) i
    by_cases hz : mNx u i = 0
    · rw [rM_0 hz]
      refine g_iload_n X 0 dX5_turns_31 rfl rfl ?_
      refine g_iconst X (v := nI 4) dX5_turns_32 (by decide) ?_
      refine g_icmp_ge X 73 dX5_turns_33 (by decide) (nI_leI (by omega) (by omega)) (fun c_1 => ?_) (fun c_1 => ?_)
      · have e9 : i = 4 := by omega
        subst e9
        exact absurd hz hnz
      · refine g_aload_n X 3 dX5_turns_36 rfl rfl ?_
        refine g_get X 10 0 cm10 rfl 21 (by decide) hiX5 (by decide +kernel) rfl rfl dX5_turns_37 ?_
        refine g_iload_n X 0 dX5_turns_40 rfl rfl ?_
        refine g_zald X 25 0 cm25 i (by omega) (by decide) rfl dX5_turns_41 ?_
        refine g_if_ne X 67 dX5_turns_42 (by decide) (Iff.rfl) (fun c_2 => ?_) (fun c_2 => ?_)
        · refine g_iinc X 0 [(3, .int (nI (i + 1))), (2, .int (-1)), (1, .int (nI t)), (0, .ref (al 10 0))] dX5_turns_67 rfl (nI_inc (by decide)) (by decide) rfl ?_
          refine g_goto X 31 dX5_turns_70 (by decide) ?_
          refine g_lv [0, 1, 2, 3] rfl ?_
          have e9 : rM (mNx u (i + 1)) = (-1) := by rw [mNx, if_neg (fun z => c_2 z.1)]; exact rM_0 hz
          have q9 := ih (i + 1) (by omega) (by omega)
          rw [e9] at q9
          exact q9
        · refine g_iload_n X 1 dX5_turns_45 rfl rfl ?_
          refine g_if_lt X 65 dX5_turns_46 (by decide) (Iff.rfl) (fun c_3 => ?_) (fun c_3 => ?_)
          · refine g_iload_n X 0 dX5_turns_65 rfl rfl ?_
            refine g_istore_n X [(2, .int (nI i)), (3, .int (nI i)), (1, .int (nI t)), (0, .ref (al 10 0))] dX5_turns_66 rfl (by decide) rfl ?_
            refine g_iinc X 1 [(3, .int (nI (i + 1))), (2, .int (nI i)), (1, .int (nI t)), (0, .ref (al 10 0))] dX5_turns_67 rfl (nI_inc (by decide)) (by decide) rfl ?_
            refine g_goto X 31 dX5_turns_70 (by decide) ?_
            refine g_lv [0, 1, 2, 3] rfl ?_
            have e9 : rM (mNx u (i + 1)) = (nI i) := by rw [mNx, if_pos ⟨c_2, Or.inl hz⟩]; exact rM_p (by omega)
            have q9 := ih (i + 1) (by omega) (by omega)
            rw [e9] at q9
            exact q9
          · exact absurd (by decide) c_3
    · rw [rM_p hz]
      refine g_iload_n X 0 dX5_turns_31 rfl rfl ?_
      refine g_iconst X (v := nI 4) dX5_turns_32 (by decide) ?_
      refine g_icmp_ge X 73 dX5_turns_33 (by decide) (nI_leI (by omega) (by omega)) (fun c_1 => ?_) (fun c_1 => ?_)
      · have e9 : i = 4 := by omega
        subst e9
        refine g_lv [0, 1, 2, 3] rfl ?_
        exact K9
      · refine g_aload_n X 3 dX5_turns_36 rfl rfl ?_
        refine g_get X 10 0 cm10 rfl 21 (by decide) hiX5 (by decide +kernel) rfl rfl dX5_turns_37 ?_
        refine g_iload_n X 0 dX5_turns_40 rfl rfl ?_
        refine g_zald X 25 0 cm25 i (by omega) (by decide) rfl dX5_turns_41 ?_
        refine g_if_ne X 67 dX5_turns_42 (by decide) (Iff.rfl) (fun c_2 => ?_) (fun c_2 => ?_)
        · refine g_iinc X 0 [(3, .int (nI (i + 1))), (2, .int (nI (mNx u i - 1))), (1, .int (nI t)), (0, .ref (al 10 0))] dX5_turns_67 rfl (nI_inc (by decide)) (by decide) rfl ?_
          refine g_goto X 31 dX5_turns_70 (by decide) ?_
          refine g_lv [0, 1, 2, 3] rfl ?_
          have e9 : rM (mNx u (i + 1)) = (nI (mNx u i - 1)) := by rw [mNx, if_neg (fun z => c_2 z.1)]; exact rM_p hz
          have q9 := ih (i + 1) (by omega) (by omega)
          rw [e9] at q9
          exact q9
        · refine g_iload_n X 1 dX5_turns_45 rfl rfl ?_
          refine g_if_lt X 65 dX5_turns_46 (by decide) (n0_lt (by omega)) (fun c_3 => ?_) (fun c_3 => ?_)
          · exact absurd c_3 (fun z => z)
          · refine g_aload_n X 3 dX5_turns_49 rfl rfl ?_
            refine g_get X 10 0 cm10 rfl 14 (by decide) hiX5 (by decide +kernel) rfl rfl dX5_turns_50 ?_
            refine g_iload_n X 0 dX5_turns_53 rfl rfl ?_
            refine g_lald X 19 0 cm19 i (by omega) (by decide) rfl dX5_turns_54 ?_
            refine g_aload_n X 3 dX5_turns_55 rfl rfl ?_
            refine g_get X 10 0 cm10 rfl 14 (by decide) hiX5 (by decide +kernel) rfl rfl dX5_turns_56 ?_
            refine g_iload_n X 1 dX5_turns_59 rfl rfl ?_
            refine g_lald X 19 0 cm19 (mNx u i - 1) (by omega) (by decide) rfl dX5_turns_60 ?_
            refine g_lcmp X dX5_turns_61 ?_
            refine g_if_ge X 67 dX5_turns_62 (by decide) (lg_ge) (fun c_4 => ?_) (fun c_4 => ?_)
            · refine g_iinc X 0 [(3, .int (nI (i + 1))), (2, .int (nI (mNx u i - 1))), (1, .int (nI t)), (0, .ref (al 10 0))] dX5_turns_67 rfl (nI_inc (by decide)) (by decide) rfl ?_
              refine g_goto X 31 dX5_turns_70 (by decide) ?_
              refine g_lv [0, 1, 2, 3] rfl ?_
              have e9 : rM (mNx u (i + 1)) = (nI (mNx u i - 1)) := by rw [mNx, if_neg (fun z => z.2.elim hz c_4)]; exact rM_p hz
              have q9 := ih (i + 1) (by omega) (by omega)
              rw [e9] at q9
              exact q9
            · refine g_iload_n X 0 dX5_turns_65 rfl rfl ?_
              refine g_istore_n X [(2, .int (nI i)), (3, .int (nI i)), (1, .int (nI t)), (0, .ref (al 10 0))] dX5_turns_66 rfl (by decide) rfl ?_
              refine g_iinc X 1 [(3, .int (nI (i + 1))), (2, .int (nI i)), (1, .int (nI t)), (0, .ref (al 10 0))] dX5_turns_67 rfl (nI_inc (by decide)) (by decide) rfl ?_
              refine g_goto X 31 dX5_turns_70 (by decide) ?_
              refine g_lv [0, 1, 2, 3] rfl ?_
              have e9 : rM (mNx u (i + 1)) = (nI i) := by rw [mNx, if_pos ⟨c_2, Or.inr (Decidable.of_not_not c_4)⟩]; exact rM_p (by omega)
              have q9 := ih (i + 1) (by omega) (by omega)
              rw [e9] at q9
              exact q9

set_option maxRecDepth 100000 in
set_option maxHeartbeats 4000000 in
/-- the loop of turns at 22 -/
theorem l_turns2 {l : Launch} {D : va_G} {ta : Nat → ClassId} {pl : Nat → Nat} {bs : Nat} {al : Ad} {Z : Wo} {p : Program} {e : Env} {s : State} {m : MethodId} {args : Array Value} {below : List Frame} {meth : Method} {c : Code} {u : St} (X : Cx D ta pl bs 4 p s m args meth c cX5_turns wsX5_turns RX5 none)  (h0 : Jv u) : ∀ (n9 i : Nat), i ≤ 4 → 4 + 1 ≤ i + n9 → WW D bs 4 p l e (rmF 2 46) s m args below meth c (QQ D bs below args s 0 0 (fun r al' C' => r = none ∧ al' = al ∧ C' = mM Z ta al (mTake u))) al (mM Z ta al (mTuN i (mClr 4 u))) 0 0 22 [(1, .int (nI i)), (0, .ref (al 10 0))] [] := by
  have hiX5 : ∀ w ∈ u_ws RX5 TX5 22, w ∈ wsX5_turns := by decide +kernel
  intro n9
  induction n9 with
  | zero => intro i h8 h9; exact absurd h9 (by omega)
  | succ n9 ih =>
    intro i h8 h9
    have hI := Jv_TuN h0 i h8
    have hnz : i < 4 → mNx (mTuN i (mClr 4 u)) 4 ≠ 0 := fun h => mNx_ok h
    generalize hw : mTuN i (mClr 4 u) = w at *
    have hn9 := mNx_le (v := w) 4
    refine g_iload_n X 0 dX5_turns_22 rfl rfl ?_
    refine g_iconst X (v := nI 4) dX5_turns_23 (by decide) ?_
    refine g_icmp_ge X 91 dX5_turns_24 (by decide) (nI_leI (by omega) (by omega)) (fun c_1 => ?_) (fun c_1 => ?_)
    · exact g_vret X rfl dX5_turns_91 ⟨rfl, rfl, by subst hw; have e9 : i = 4 := (by omega); rw [e9]; rfl⟩
    · refine g_iconst X (v := -1) dX5_turns_27 (by decide) ?_
      refine g_istore_n X [(2, .int (-1)), (1, .int (nI i)), (0, .ref (al 10 0))] dX5_turns_28 rfl (by decide) rfl ?_
      refine g_iconst X (v := nI 0) dX5_turns_29 (by decide) ?_
      refine g_istore_n X [(3, .int (nI 0)), (2, .int (-1)), (1, .int (nI i)), (0, .ref (al 10 0))] dX5_turns_30 rfl (by decide) rfl ?_
      refine g_lv (lv' := [(3, .int (nI 0)), (2, .int (-1)), (1, .int (nI i)), (0, .ref (al 10 0))]) [0, 1, 2, 3] rfl ?_
      refine l_turns3 X i (hnz (by omega)) ?_ 5 0 (Nat.zero_le _) (Nat.le_refl _)
      refine g_aload_n X 3 dX5_turns_73 rfl rfl ?_
      refine g_get X 10 0 cm10 rfl 21 (by decide) hiX5 (by decide +kernel) rfl rfl dX5_turns_74 ?_
      refine g_iload_n X 1 dX5_turns_77 rfl rfl ?_
      refine g_iconst X (v := nI 1) dX5_turns_78 (by decide) ?_
      refine g_zast X 25 0 cm25 (mNx w 4 - 1) (by omega) (by decide) (by decide) _ um_a25 dX5_turns_79 ?_
      generalize hu_2 : st w 25 (mNx w 4 - 1) 1 = u_2
      refine g_aload_n X 3 dX5_turns_80 rfl rfl ?_
      refine g_iload_n X 1 dX5_turns_81 rfl rfl ?_
      refine g_callDV0 (n := 1) X 10 0 [.int (nI (mNx w 4 - 1))] cm10 rfl (m_putOn (mNx w 4 - 1) (by rw [← hu_2]; exact Jv_had hI) (by omega)) gX5_turns_X5_putOn rfl ⟨rfl, rfl⟩ (by decide +kernel) ⟨by decide, by decide⟩ rfl (Nat.le_of_ble_eq_true rfl) dX5_turns_82 ⟨Nat.zero_le _, Nat.zero_le _⟩ _ rfl ?_
      generalize hu_3 : mPut u_2 (mNx w 4 - 1) = u_3
      refine g_iinc X 2 [(1, .int (nI (i + 1))), (3, .int (nI 4)), (2, .int (nI (mNx w 4 - 1))), (0, .ref (al 10 0))] dX5_turns_85 rfl (nI_inc (by decide)) (by decide) rfl ?_
      refine g_goto X 22 dX5_turns_88 (by decide) ?_
      refine g_lv [0, 3] rfl ?_
      have e9 : mTuN (i + 1) (mClr 4 u) = u_3 := by show mTurn (mTuN i (mClr 4 u)) = _; rw [hw, mTurn, hu_2]; exact hu_3
      have q9 := ih (i + 1) (by omega) (by omega)
      rw [e9] at q9
      exact q9

set_option maxRecDepth 100000 in
set_option maxHeartbeats 4000000 in
/-- the loop of turns at 2 -/
theorem l_turns1 {l : Launch} {D : va_G} {ta : Nat → ClassId} {pl : Nat → Nat} {bs : Nat} {al : Ad} {Z : Wo} {p : Program} {e : Env} {s : State} {m : MethodId} {args : Array Value} {below : List Frame} {meth : Method} {c : Code} {u : St} (X : Cx D ta pl bs 4 p s m args meth c cX5_turns wsX5_turns RX5 none)  (h0 : Jv u) : ∀ (n9 i : Nat), i ≤ 4 → 4 + 1 ≤ i + n9 → WW D bs 4 p l e (rmF 2 46) s m args below meth c (QQ D bs below args s 0 0 (fun r al' C' => r = none ∧ al' = al ∧ C' = mM Z ta al (mTake u))) al (mM Z ta al (mClr i u)) 0 0 2 [(1, .int (nI i)), (0, .ref (al 10 0))] [] := by
  have hiX5 : ∀ w ∈ u_ws RX5 TX5 22, w ∈ wsX5_turns := by decide +kernel
  intro n9
  induction n9 with
  | zero => intro i h8 h9; exact absurd h9 (by omega)
  | succ n9 ih =>
    intro i h8 h9
    generalize hw : mClr i u = w at *
    refine g_iload_n X 0 dX5_turns_2 rfl rfl ?_
    refine g_iconst X (v := nI 4) dX5_turns_3 (by decide) ?_
    refine g_icmp_ge X 20 dX5_turns_4 (by decide) (nI_leI (by omega) (by omega)) (fun c_1 => ?_) (fun c_1 => ?_)
    · refine g_iconst X (v := nI 0) dX5_turns_20 (by decide) ?_
      refine g_istore_n X [(1, .int (nI 0)), (0, .ref (al 10 0))] dX5_turns_21 rfl (by decide) rfl ?_
      refine g_lv [0, 1] rfl ?_
      have e9 : i = 4 := by omega
      subst e9
      subst hw
      exact l_turns2 X h0 5 0 (Nat.zero_le _) (Nat.le_refl _)
    · refine g_aload_n X 1 dX5_turns_7 rfl rfl ?_
      refine g_get X 10 0 cm10 rfl 21 (by decide) hiX5 (by decide +kernel) rfl rfl dX5_turns_8 ?_
      refine g_iload_n X 0 dX5_turns_11 rfl rfl ?_
      refine g_iconst X (v := nI 0) dX5_turns_12 (by decide) ?_
      refine g_zast X 25 0 cm25 i (by omega) (by decide) (by decide) _ um_a25 dX5_turns_13 ?_
      generalize hu_2 : st w 25 i 0 = u_2
      refine g_iinc X 0 [(1, .int (nI (i + 1))), (0, .ref (al 10 0))] dX5_turns_14 rfl (nI_inc (by decide)) (by decide) rfl ?_
      refine g_goto X 2 dX5_turns_17 (by decide) ?_
      refine g_lv [0, 1] rfl ?_
      subst hu_2
      subst hw
      exact ih (i + 1) (by omega) (by omega)

set_option maxRecDepth 100000 in
set_option maxHeartbeats 4000000 in
/-- turns -/
theorem m_turns {l : Launch} {D : va_G} {ta : Nat → ClassId} {pl : Nat → Nat} {bs : Nat} {al : Ad} {Z : Wo} {u : St}  (h0 : Jv u) : GD l D ta pl bs yX5_turns wsX5_turns (rmF 2 46) [.ref (al 10 0)] al (mM Z ta al u) none (mM Z ta al (mTake u)) := by
  refine GM.of (by decide) rfl (Nat.le_of_ble_eq_true rfl) ?_
  intro p e s m args below meth c X hnm
  refine g_lv (lv' := [(0, .ref (al 10 0))]) [0] rfl ?_
  refine g_iconst X (v := nI 0) dX5_turns_0 (by decide) ?_
  refine g_istore_n X [(1, .int (nI 0)), (0, .ref (al 10 0))] dX5_turns_1 rfl (by decide) rfl ?_
  refine g_lv [0, 1] rfl ?_
  exact l_turns1 X h0 5 0 (Nat.zero_le _) (Nat.le_refl _)

set_option maxRecDepth 100000 in
set_option maxHeartbeats 4000000 in
/-- the loop of step at 50 -/
theorem l_step3 {l : Launch} {D : va_G} {ta : Nat → ClassId} {pl : Nat → Nat} {bs : Nat} {al : Ad} {Z : Wo} {p : Program} {e : Env} {s : State} {m : MethodId} {args : Array Value} {below : List Frame} {meth : Method} {c : Code} {Q : State → Prop} {u : St} (X : Cx D ta pl bs 6 p s m args meth c cX5_step wsX5_step RX5 (some .int)) (a b g n : Nat) (h0 : Jv u) (K9 : WW D bs 6 p l e (rmF 3 69) s m args below meth c Q al (mM Z ta al (mPN 16 u)) 0 0 69 [(5, .int (nI 16)), (4, .int (nI a)), (3, .int (nI b)), (2, .int (nI g)), (1, .int (nI n)), (0, .ref (al 10 0))] []) : ∀ (n9 i : Nat), i ≤ 16 → 16 + 1 ≤ i + n9 → WW D bs 6 p l e (rmF 3 69) s m args below meth c Q al (mM Z ta al (mPN i u)) 0 0 50 [(5, .int (nI i)), (4, .int (nI a)), (3, .int (nI b)), (2, .int (nI g)), (1, .int (nI n)), (0, .ref (al 10 0))] [] := by
  intro n9
  induction n9 with
  | zero => intro i h8 h9; exact absurd h9 (by omega)
  | succ n9 ih =>
    intro i h8 h9
    have hJ := Jv_PN h0 i h8
    generalize hw : mPN i u = w at *
    refine g_iload X 0 dX5_step_50 rfl ?_
    refine g_bipush X (v := nI 16) dX5_step_52 (by decide) ?_
    refine g_icmp_ge X 69 dX5_step_54 (by decide) (nI_leI (by omega) (by omega)) (fun c_1 => ?_) (fun c_1 => ?_)
    · have e9 : i = 16 := by omega
      subst e9
      subst hw
      refine g_lv [0, 1, 2, 3, 4, 5] rfl ?_
      exact K9
    · refine g_aload_n X 5 dX5_step_57 rfl rfl ?_
      refine g_iload X 0 dX5_step_58 rfl ?_
      refine g_callDV0 (n := 1) X 10 0 [.int (nI i)] cm10 rfl (m_passChute i hJ (by omega)) gX5_step_X5_passChute rfl ⟨rfl, rfl⟩ (by decide +kernel) ⟨by decide, by decide⟩ rfl (Nat.le_of_ble_eq_true rfl) dX5_step_60 ⟨Nat.zero_le _, Nat.zero_le _⟩ _ rfl ?_
      generalize hu_2 : mPass w i = u_2
      refine g_iinc X 0 [(5, .int (nI (i + 1))), (4, .int (nI a)), (3, .int (nI b)), (2, .int (nI g)), (1, .int (nI n)), (0, .ref (al 10 0))] dX5_step_63 rfl (nI_inc (by decide)) (by decide) rfl ?_
      refine g_goto X 50 dX5_step_66 (by decide) ?_
      refine g_lv [0, 1, 2, 3, 4, 5] rfl ?_
      have e9 : mPN (i + 1) u = u_2 := by show mPass (mPN i u) i = _; rw [hw]; exact hu_2
      have q9 := ih (i + 1) (by omega) (by omega)
      rw [e9] at q9
      exact q9

set_option maxRecDepth 100000 in
set_option maxHeartbeats 4000000 in
/-- the loop of step at 34 -/
theorem l_step2 {l : Launch} {D : va_G} {ta : Nat → ClassId} {pl : Nat → Nat} {bs : Nat} {al : Ad} {Z : Wo} {p : Program} {e : Env} {s : State} {m : MethodId} {args : Array Value} {below : List Frame} {meth : Method} {c : Code} {Q : State → Prop} {u : St} (X : Cx D ta pl bs 6 p s m args meth c cX5_step wsX5_step RX5 (some .int)) (b g n : Nat) (h0 : Jv u) (K9 : WW D bs 6 p l e (rmF 3 69) s m args below meth c Q al (mM Z ta al (mMvN (u 3 0) u)) 0 0 75 [(4, .int (nI (u 3 0))), (3, .int (nI b)), (2, .int (nI g)), (1, .int (nI n)), (0, .ref (al 10 0))] []) : ∀ (n9 i : Nat), i ≤ u 3 0 → u 3 0 + 1 ≤ i + n9 → WW D bs 6 p l e (rmF 3 69) s m args below meth c Q al (mM Z ta al (mMvN i u)) 0 0 34 [(4, .int (nI i)), (3, .int (nI b)), (2, .int (nI g)), (1, .int (nI n)), (0, .ref (al 10 0))] [] := by
  have hiX5 : ∀ w ∈ u_ws RX5 TX5 22, w ∈ wsX5_step := by decide +kernel
  intro n9
  induction n9 with
  | zero => intro i h8 h9; exact absurd h9 (by omega)
  | succ n9 ih =>
    intro i h8 h9
    have hI := Jv_MvN h0 i
    have k3 : mMvN i u 3 0 = u 3 0 := mMvN_k (by omega)
    generalize hw : mMvN i u = w at *
    obtain ⟨h1, h2, h5, h31, h32, hJ6, h6⟩ := id hI.w
    refine g_iload X 0 dX5_step_34 rfl ?_
    refine g_aload_n X 4 dX5_step_36 rfl rfl ?_
    refine g_get X 10 0 cm10 rfl 5 (by decide) hiX5 (by decide +kernel) rfl rfl dX5_step_37 ?_
    refine g_icmp_ge X 75 dX5_step_40 (by decide) (nI_leI (by omega) (by omega)) (fun c_1 => ?_) (fun c_1 => ?_)
    · have e9 : i = u 3 0 := by omega
      subst hw
      refine g_lv [0, 1, 2, 3, 4] rfl ?_
      rw [e9]
      exact K9
    · refine g_aload_n X 4 dX5_step_43 rfl rfl ?_
      refine g_callDV0 (n := 0) X 10 0 [] cm10 rfl (m_move (by omega) (by omega)) gX5_step_X5_move rfl ⟨rfl, rfl⟩ (by decide +kernel) ⟨by decide, by decide⟩ rfl (Nat.le_of_ble_eq_true rfl) dX5_step_44 ⟨Nat.zero_le _, Nat.zero_le _⟩ _ rfl ?_
      generalize hu_2 : mvA w = u_2
      refine g_iconst X (v := nI 0) dX5_step_47 (by decide) ?_
      refine g_istore X [(5, .int (nI 0)), (4, .int (nI i)), (3, .int (nI b)), (2, .int (nI g)), (1, .int (nI n)), (0, .ref (al 10 0))] dX5_step_48 (by decide) rfl ?_
      refine g_lv [0, 1, 2, 3, 4, 5] rfl ?_
      refine l_step3 X _ _ _ _ (by rw [← hu_2]; exact Jv_move hI) ?_ 17 0 (Nat.zero_le _) (Nat.le_refl _)
      generalize hu_3 : mPN 16 u_2 = u_3
      refine g_iinc X 1 [(4, .int (nI (i + 1))), (5, .int (nI 16)), (3, .int (nI b)), (2, .int (nI g)), (1, .int (nI n)), (0, .ref (al 10 0))] dX5_step_69 rfl (nI_inc (by decide)) (by decide) rfl ?_
      refine g_goto X 34 dX5_step_72 (by decide) ?_
      refine g_lv [0, 2, 3, 4, 5] rfl ?_
      have e9 : mMvN (i + 1) u = u_3 := by show mMove (mMvN i u) = _; rw [hw, mMove, hu_2]; exact hu_3
      have q9 := ih (i + 1) (by omega) (by omega)
      rw [e9] at q9
      exact q9

set_option maxRecDepth 100000 in
set_option maxHeartbeats 4000000 in
/-- the loop of step at 26 -/
theorem l_step1 {l : Launch} {D : va_G} {ta : Nat → ClassId} {pl : Nat → Nat} {bs : Nat} {al : Ad} {Z : Wo} {p : Program} {e : Env} {s : State} {m : MethodId} {args : Array Value} {below : List Frame} {meth : Method} {c : Code} {u : St} (X : Cx D ta pl bs 6 p s m args meth c cX5_step wsX5_step RX5 (some .int)) (n : Nat) (h0 : Jv u) (hn : n ≤ 1000) : ∀ (n9 i : Nat), i ≤ n → n + 1 ≤ i + n9 → WW D bs 6 p l e (rmF 3 69) s m args below meth c (QQ D bs below args s 0 0 (fun r al' C' => r = some (.int (nI (mRuN n u 6 0) - nI (u 6 0))) ∧ al' = al ∧ C' = mM Z ta al (mRuN n u))) al (mM Z ta al (mRuN i u)) 0 0 26 [(3, .int (nI i)), (2, .int (nI (u 6 0))), (1, .int (nI n)), (0, .ref (al 10 0))] [] := by
  have hiX5 : ∀ w ∈ u_ws RX5 TX5 22, w ∈ wsX5_step := by decide +kernel
  intro n9
  induction n9 with
  | zero => intro i h8 h9; exact absurd h9 (by omega)
  | succ n9 ih =>
    intro i h8 h9
    have hI := Jv_ruN h0 i
    generalize hw : mRuN i u = w at *
    refine g_iload_n X 0 dX5_step_26 rfl rfl ?_
    refine g_iload_n X 2 dX5_step_27 rfl rfl ?_
    refine g_icmp_ge X 95 dX5_step_28 (by decide) (nI_leI (by omega) (by omega)) (fun c_1 => ?_) (fun c_1 => ?_)
    · refine g_aload_n X 3 dX5_step_95 rfl rfl ?_
      refine g_get X 10 0 cm10 rfl 17 (by decide) hiX5 (by decide +kernel) rfl rfl dX5_step_96 ?_
      refine g_iload_n X 1 dX5_step_99 rfl rfl ?_
      refine g_isub X dX5_step_100 rfl ?_
      exact g_iret X rfl dX5_step_101 ⟨by subst hw; have e9 : i = n := (by omega); rw [e9], rfl, by subst hw; have e9 : i = n := (by omega); rw [e9]⟩
    · refine g_iconst X (v := nI 0) dX5_step_31 (by decide) ?_
      refine g_istore X [(4, .int (nI 0)), (3, .int (nI i)), (2, .int (nI (u 6 0))), (1, .int (nI n)), (0, .ref (al 10 0))] dX5_step_32 (by decide) rfl ?_
      refine g_lv [0, 1, 2, 3, 4] rfl ?_
      refine l_step2 X _ _ _ hI ?_ (w 3 0 + 1) 0 (Nat.zero_le _) (by omega)
      generalize hu_2 : mMvN (w 3 0) w = u_2
      refine g_aload_n X 4 dX5_step_75 rfl rfl ?_
      refine g_dup X dX5_step_76 rfl ?_
      refine g_get X 10 0 cm10 rfl 6 (by decide) hiX5 (by decide +kernel) rfl rfl dX5_step_77 ?_
      refine g_iconst X (v := nI 1) dX5_step_80 (by decide) ?_
      refine g_iadd X dX5_step_81 (nI_add _ _) ?_
      refine g_put X tyX5 tyX5_ok nmX5 10 0 cm10 rfl 6 (by decide) hiX5 (by decide +kernel) rfl rfl (ty := .int) (by decide +kernel) rfl rfl (Nat.le_of_ble_eq_true rfl) _ um_time dX5_step_82 ?_
      generalize hu_3 : st u_2 4 0 ((u_2 4 0) + 1) = u_3
      refine g_aload_n X 4 dX5_step_85 rfl rfl ?_
      refine g_callDV0 (n := 0) X 10 0 [] cm10 rfl (m_turns (by rw [← hu_3, ← hu_2]; exact Jv_time (Jv_MvN hI _))) gX5_step_X5_turns rfl ⟨rfl, rfl⟩ (by decide +kernel) ⟨by decide, by decide⟩ rfl (Nat.le_of_ble_eq_true rfl) dX5_step_86 ⟨Nat.zero_le _, Nat.zero_le _⟩ _ rfl ?_
      generalize hu_4 : mTake u_3 = u_4
      refine g_iinc X 1 [(3, .int (nI (i + 1))), (4, .int (nI (w 3 0))), (2, .int (nI (u 6 0))), (1, .int (nI n)), (0, .ref (al 10 0))] dX5_step_89 rfl (nI_inc (by decide)) (by decide) rfl ?_
      refine g_goto X 26 dX5_step_92 (by decide) ?_
      refine g_lv [0, 2, 3, 4] rfl ?_
      have e9 : mRuN (i + 1) u = u_4 := by show mRun (mRuN i u) = _; rw [hw, mRun, hu_2, hu_3]; exact hu_4
      have q9 := ih (i + 1) (by omega) (by omega)
      rw [e9] at q9
      exact q9

set_option maxRecDepth 100000 in
set_option maxHeartbeats 4000000 in
/-- step -/
theorem m_step {l : Launch} {D : va_G} {ta : Nat → ClassId} {pl : Nat → Nat} {bs : Nat} {al : Ad} {Z : Wo} {u : St} (n : Nat) (h0 : Jv u) (hn : n ≤ 1000) : GD l D ta pl bs yX5_step wsX5_step (rmF 3 69) [.ref (al 10 0), .int (nI n)] al (mM Z ta al u) (some (.int (nI (mRuN n (st u 0 0 0) 6 0) - nI (st u 0 0 0 6 0)))) (mM Z ta al (mRuN n (st u 0 0 0))) := by
  refine GM.of (by decide) rfl (Nat.le_of_ble_eq_true rfl) ?_
  intro p e s m args below meth c X hnm
  have hiX5 : ∀ w ∈ u_ws RX5 TX5 22, w ∈ wsX5_step := by decide +kernel
  refine g_lv (lv' := [(0, .ref (al 10 0)), (1, .int (nI n))]) [0, 1] rfl ?_
  refine g_aload_n X 0 dX5_step_0 rfl rfl ?_
  refine g_iconst X (v := nI 0) dX5_step_1 (by decide) ?_
  refine g_put X tyX5 tyX5_ok nmX5 10 0 cm10 rfl 0 (by decide) hiX5 (by decide +kernel) rfl rfl (ty := .int) (by decide +kernel) rfl rfl (Nat.le_of_ble_eq_true rfl) _ um_thrown dX5_step_2 ?_
  generalize hu_1 : st u 0 0 0 = u_1
  refine g_iload_n X 1 dX5_step_5 rfl rfl ?_
  refine g_iconst X (v := nI 0) dX5_step_6 (by decide) ?_
  refine g_sipush X (v := nI 1000) dX5_step_7 (by decide) ?_
  refine g_callDS1 (n := 3) X [.int (nI n), .int (nI 0), .int (nI 1000)] (m_in ((nI n)) ((nI 0)) ((nI 1000))) gX5_step_X5_in rfl ⟨rfl, rfl⟩ (by decide +kernel) ⟨by decide, by decide⟩ rfl (Nat.le_of_ble_eq_true rfl) dX5_step_10 ⟨Nat.zero_le _, Nat.zero_le _⟩ _ rfl ?_
  refine g_if_ne X 19 dX5_step_13 (by decide) (bN_eq0) (fun c_2 => ?_) (fun c_2 => ?_)
  · have c_2 := Decidable.of_not_not c_2
    refine g_aload_n X 0 dX5_step_19 rfl rfl ?_
    refine g_get X 10 0 cm10 rfl 17 (by decide) hiX5 (by decide +kernel) rfl rfl dX5_step_20 ?_
    refine g_istore_n X [(2, .int (nI (u_1 6 0))), (0, .ref (al 10 0)), (1, .int (nI n))] dX5_step_23 rfl (by decide) rfl ?_
    refine g_iconst X (v := nI 0) dX5_step_24 (by decide) ?_
    refine g_istore_n X [(3, .int (nI 0)), (2, .int (nI (u_1 6 0))), (0, .ref (al 10 0)), (1, .int (nI n))] dX5_step_25 rfl (by decide) rfl ?_
    refine g_lv [0, 1, 3, 2] rfl ?_
    have q9 := l_step1 (u := u_1) (al := al) (Z := Z) (below := below) (l := l) (e := e) X n (by rw [← hu_1]; exact Jv_thrown h0) hn (n + 1) 0 (Nat.zero_le _) (by omega)
    subst hu_1
    exact q9
  · exact absurd ⟨nI_nlt (by omega) (by omega), nI_nlt (by omega) (by omega)⟩ c_2
end
section
set_option maxRecDepth 100000 in
set_option maxHeartbeats 4000000 in
/-- thrown -/
theorem m_thrown {l : Launch} {D : va_G} {ta : Nat → ClassId} {pl : Nat → Nat} {bs : Nat} {al : Ad} {Z : Wo} {u : St}   : GD l D ta pl bs yX5_thrown wsX5_thrown (rmF 0 0) [.ref (al 10 0)] al (mM Z ta al u) (some (.int (nI (u 0 0)))) (mM Z ta al u) := by
  refine GM.of (by decide) rfl (Nat.le_of_ble_eq_true rfl) ?_
  intro p e s m args below meth c X hnm
  have hiX5 : ∀ w ∈ u_ws RX5 TX5 22, w ∈ wsX5_thrown := by decide +kernel
  refine g_lv (lv' := [(0, .ref (al 10 0))]) [0] rfl ?_
  refine g_aload_n X 0 dX5_thrown_0 rfl rfl ?_
  refine g_get X 10 0 cm10 rfl 0 (by decide) hiX5 (by decide +kernel) rfl rfl dX5_thrown_1 ?_
  exact g_iret X rfl dX5_thrown_4 ⟨rfl, rfl, rfl⟩

set_option maxRecDepth 100000 in
set_option maxHeartbeats 4000000 in
/-- isItem -/
theorem m_isItem {l : Launch} {D : va_G} {ta : Nat → ClassId} {pl : Nat → Nat} {bs : Nat} {al : Ad} {Z : Wo} {u : St} (x : Int32)  : GD l D ta pl bs yX5_isItem wsX5_isItem (rmF 1 22) [.ref (al 10 0), .int x] al (mM Z ta al u) (some (.int (nI (bN (inB x 1 (u 5 0)))))) (mM Z ta al u) := by
  refine GM.of (by decide) rfl (Nat.le_of_ble_eq_true rfl) ?_
  intro p e s m args below meth c X hnm
  have hiX5 : ∀ w ∈ u_ws RX5 TX5 22, w ∈ wsX5_isItem := by decide +kernel
  refine g_lv (lv' := [(0, .ref (al 10 0)), (1, .int x)]) [0, 1] rfl ?_
  refine g_iload_n X 1 dX5_isItem_0 rfl rfl ?_
  refine g_iconst X (v := nI 1) dX5_isItem_1 (by decide) ?_
  refine g_aload_n X 0 dX5_isItem_2 rfl rfl ?_
  refine g_get X 10 0 cm10 rfl 7 (by decide) hiX5 (by decide +kernel) rfl rfl dX5_isItem_3 ?_
  refine g_callDS1 (n := 3) X [.int x, .int (nI 1), .int (nI (u 5 0))] (m_in x ((nI 1)) ((nI (u 5 0)))) gX5_isItem_X5_in rfl ⟨rfl, rfl⟩ (by decide +kernel) ⟨by decide, by decide⟩ rfl (Nat.le_of_ble_eq_true rfl) dX5_isItem_6 ⟨Nat.zero_le _, Nat.zero_le _⟩ _ rfl ?_
  exact g_zret X rfl dX5_isItem_9 bN_nar ⟨rfl, rfl, rfl⟩

set_option maxRecDepth 100000 in
set_option maxHeartbeats 4000000 in
/-- speed -/
theorem m_speed_u {l : Launch} {D : va_G} {ta : Nat → ClassId} {pl : Nat → Nat} {bs : Nat} {al : Ad} {Z : Wo} {u : St} (x : Int32) (h : ¬ inB x 1 5) : GD l D ta pl bs yX5_speed wsX5_speed (rmF 1 22) [.ref (al 10 0), .int x] al (mM Z ta al u) (some (.int (-12))) (mM Z ta al (st u 0 0 0)) := by
  refine GM.of (by decide) rfl (Nat.le_of_ble_eq_true rfl) ?_
  intro p e s m args below meth c X hnm
  have hiX5 : ∀ w ∈ u_ws RX5 TX5 22, w ∈ wsX5_speed := by decide +kernel
  refine g_lv (lv' := [(0, .ref (al 10 0)), (1, .int x)]) [0, 1] rfl ?_
  refine g_aload_n X 0 dX5_speed_0 rfl rfl ?_
  refine g_iconst X (v := nI 0) dX5_speed_1 (by decide) ?_
  refine g_put X tyX5 tyX5_ok nmX5 10 0 cm10 rfl 0 (by decide) hiX5 (by decide +kernel) rfl rfl (ty := .int) (by decide +kernel) rfl rfl (Nat.le_of_ble_eq_true rfl) _ um_thrown dX5_speed_2 ?_
  generalize hu_1 : st u 0 0 0 = u_1
  have k1u_1 : u_1 1 0 = u 1 0 := by rw [← hu_1]; first | rfl | exact st_nf (by omega)
  have k5u_1 : u_1 5 0 = u 5 0 := by rw [← hu_1]; first | rfl | exact st_nf (by omega)
  refine g_iload_n X 1 dX5_speed_5 rfl rfl ?_
  refine g_iconst X (v := nI 1) dX5_speed_6 (by decide) ?_
  refine g_iconst X (v := nI 5) dX5_speed_7 (by decide) ?_
  refine g_callDS1 (n := 3) X [.int x, .int (nI 1), .int (nI 5)] (m_in x ((nI 1)) ((nI 5))) gX5_speed_X5_in rfl ⟨rfl, rfl⟩ (by decide +kernel) ⟨by decide, by decide⟩ rfl (Nat.le_of_ble_eq_true rfl) dX5_speed_8 ⟨Nat.zero_le _, Nat.zero_le _⟩ _ rfl ?_
  refine g_if_ne X 17 dX5_speed_11 (by decide) (bN_eq0) (fun c_2 => ?_) (fun c_2 => ?_)
  · have c_2 := Decidable.of_not_not c_2
    exact absurd c_2 h
  · refine g_bipush X (v := -12) dX5_speed_14 (by decide) ?_
    exact g_iret X rfl dX5_speed_16 ⟨rfl, rfl, by subst hu_1; rfl⟩

set_option maxRecDepth 100000 in
set_option maxHeartbeats 4000000 in
/-- speed -/
theorem m_speed_1 {l : Launch} {D : va_G} {ta : Nat → ClassId} {pl : Nat → Nat} {bs : Nat} {al : Ad} {Z : Wo} {u : St} (n : Nat) (h1 : 1 ≤ n) (h2 : n ≤ 5) : GD l D ta pl bs yX5_speed wsX5_speed (rmF 1 22) [.ref (al 10 0), .int (nI n)] al (mM Z ta al u) (some (.int (nI (u 3 0)))) (mM Z ta al (st (st u 0 0 0) 3 0 n)) := by
  refine GM.of (by decide) rfl (Nat.le_of_ble_eq_true rfl) ?_
  intro p e s m args below meth c X hnm
  have hiX5 : ∀ w ∈ u_ws RX5 TX5 22, w ∈ wsX5_speed := by decide +kernel
  refine g_lv (lv' := [(0, .ref (al 10 0)), (1, .int (nI n))]) [0, 1] rfl ?_
  refine g_aload_n X 0 dX5_speed_0 rfl rfl ?_
  refine g_iconst X (v := nI 0) dX5_speed_1 (by decide) ?_
  refine g_put X tyX5 tyX5_ok nmX5 10 0 cm10 rfl 0 (by decide) hiX5 (by decide +kernel) rfl rfl (ty := .int) (by decide +kernel) rfl rfl (Nat.le_of_ble_eq_true rfl) _ um_thrown dX5_speed_2 ?_
  generalize hu_1 : st u 0 0 0 = u_1
  have k3u_1 : u_1 3 0 = u 3 0 := by rw [← hu_1]; first | rfl | exact st_nf (by omega)
  refine g_iload_n X 1 dX5_speed_5 rfl rfl ?_
  refine g_iconst X (v := nI 1) dX5_speed_6 (by decide) ?_
  refine g_iconst X (v := nI 5) dX5_speed_7 (by decide) ?_
  refine g_callDS1 (n := 3) X [.int (nI n), .int (nI 1), .int (nI 5)] (m_in ((nI n)) ((nI 1)) ((nI 5))) gX5_speed_X5_in rfl ⟨rfl, rfl⟩ (by decide +kernel) ⟨by decide, by decide⟩ rfl (Nat.le_of_ble_eq_true rfl) dX5_speed_8 ⟨Nat.zero_le _, Nat.zero_le _⟩ _ rfl ?_
  refine g_if_ne X 17 dX5_speed_11 (by decide) (bN_eq0) (fun c_2 => ?_) (fun c_2 => ?_)
  · have c_2 := Decidable.of_not_not c_2
    refine g_aload_n X 0 dX5_speed_17 rfl rfl ?_
    refine g_get X 10 0 cm10 rfl 5 (by decide) hiX5 (by decide +kernel) rfl rfl dX5_speed_18 ?_
    refine g_istore_n X [(2, .int (nI (u_1 3 0))), (0, .ref (al 10 0)), (1, .int (nI n))] dX5_speed_21 rfl (by decide) rfl ?_
    refine g_aload_n X 1 dX5_speed_22 rfl rfl ?_
    refine g_iload_n X 2 dX5_speed_23 rfl rfl ?_
    refine g_put X tyX5 tyX5_ok nmX5 10 0 cm10 rfl 5 (by decide) hiX5 (by decide +kernel) rfl rfl (ty := .int) (by decide +kernel) rfl rfl (Nat.le_of_ble_eq_true rfl) _ um_speed dX5_speed_24 ?_
    generalize hu_3 : st u_1 3 0 n = u_3
    refine g_iload_n X 0 dX5_speed_27 rfl rfl ?_
    exact g_iret X rfl dX5_speed_28 ⟨by rw [k3u_1], rfl, by subst hu_3; subst hu_1; rfl⟩
  · exact absurd (inB_nI h1 h2 (by decide)) c_2

set_option maxRecDepth 100000 in
set_option maxHeartbeats 4000000 in
/-- share -/
theorem m_share_u {l : Launch} {D : va_G} {ta : Nat → ClassId} {pl : Nat → Nat} {bs : Nat} {al : Ad} {Z : Wo} {u : St} (x : Int32) (h : ¬ inB x 0 3) : GD l D ta pl bs yX5_share wsX5_share (rmF 1 22) [.ref (al 10 0), .int x] al (mM Z ta al u) (some (.long (-11))) (mM Z ta al (st u 0 0 0)) := by
  refine GM.of (by decide) rfl (Nat.le_of_ble_eq_true rfl) ?_
  intro p e s m args below meth c X hnm
  have hiX5 : ∀ w ∈ u_ws RX5 TX5 22, w ∈ wsX5_share := by decide +kernel
  refine g_lv (lv' := [(0, .ref (al 10 0)), (1, .int x)]) [0, 1] rfl ?_
  refine g_aload_n X 0 dX5_share_0 rfl rfl ?_
  refine g_iconst X (v := nI 0) dX5_share_1 (by decide) ?_
  refine g_put X tyX5 tyX5_ok nmX5 10 0 cm10 rfl 0 (by decide) hiX5 (by decide +kernel) rfl rfl (ty := .int) (by decide +kernel) rfl rfl (Nat.le_of_ble_eq_true rfl) _ um_thrown dX5_share_2 ?_
  generalize hu_1 : st u 0 0 0 = u_1
  have k1u_1 : u_1 1 0 = u 1 0 := by rw [← hu_1]; first | rfl | exact st_nf (by omega)
  have k5u_1 : u_1 5 0 = u 5 0 := by rw [← hu_1]; first | rfl | exact st_nf (by omega)
  refine g_iload_n X 1 dX5_share_5 rfl rfl ?_
  refine g_iconst X (v := nI 0) dX5_share_6 (by decide) ?_
  refine g_iconst X (v := nI 3) dX5_share_7 (by decide) ?_
  refine g_callDS1 (n := 3) X [.int x, .int (nI 0), .int (nI 3)] (m_in x ((nI 0)) ((nI 3))) gX5_share_X5_in rfl ⟨rfl, rfl⟩ (by decide +kernel) ⟨by decide, by decide⟩ rfl (Nat.le_of_ble_eq_true rfl) dX5_share_8 ⟨Nat.zero_le _, Nat.zero_le _⟩ _ rfl ?_
  refine g_if_eq X 23 dX5_share_11 (by decide) (bN_eq0) (fun c_2 => ?_) (fun c_2 => ?_)
  · refine g_ldc2 X (v := -11) dX5_share_23 (by decide +kernel) ?_
    exact g_lret X rfl dX5_share_26 ⟨rfl, rfl, by subst hu_1; rfl⟩
  · have c_2 := Decidable.of_not_not c_2
    exact absurd c_2 h

set_option maxRecDepth 100000 in
set_option maxHeartbeats 4000000 in
/-- share -/
theorem m_share_1 {l : Launch} {D : va_G} {ta : Nat → ClassId} {pl : Nat → Nat} {bs : Nat} {al : Ad} {Z : Wo} {u : St} (j : Nat) (h : j < 4) : GD l D ta pl bs yX5_share wsX5_share (rmF 1 22) [.ref (al 10 0), .int (nI j)] al (mM Z ta al u) (some (.long (lN (u 19 j)))) (mM Z ta al (st u 0 0 0)) := by
  refine GM.of (by decide) rfl (Nat.le_of_ble_eq_true rfl) ?_
  intro p e s m args below meth c X hnm
  have hiX5 : ∀ w ∈ u_ws RX5 TX5 22, w ∈ wsX5_share := by decide +kernel
  refine g_lv (lv' := [(0, .ref (al 10 0)), (1, .int (nI j))]) [0, 1] rfl ?_
  refine g_aload_n X 0 dX5_share_0 rfl rfl ?_
  refine g_iconst X (v := nI 0) dX5_share_1 (by decide) ?_
  refine g_put X tyX5 tyX5_ok nmX5 10 0 cm10 rfl 0 (by decide) hiX5 (by decide +kernel) rfl rfl (ty := .int) (by decide +kernel) rfl rfl (Nat.le_of_ble_eq_true rfl) _ um_thrown dX5_share_2 ?_
  generalize hu_1 : st u 0 0 0 = u_1
  have k19u_1 : u_1 19 j = u 19 j := by rw [← hu_1]; first | rfl | exact st_nf (by omega)
  refine g_iload_n X 1 dX5_share_5 rfl rfl ?_
  refine g_iconst X (v := nI 0) dX5_share_6 (by decide) ?_
  refine g_iconst X (v := nI 3) dX5_share_7 (by decide) ?_
  refine g_callDS1 (n := 3) X [.int (nI j), .int (nI 0), .int (nI 3)] (m_in ((nI j)) ((nI 0)) ((nI 3))) gX5_share_X5_in rfl ⟨rfl, rfl⟩ (by decide +kernel) ⟨by decide, by decide⟩ rfl (Nat.le_of_ble_eq_true rfl) dX5_share_8 ⟨Nat.zero_le _, Nat.zero_le _⟩ _ rfl ?_
  refine g_if_eq X 23 dX5_share_11 (by decide) (bN_eq0) (fun c_2 => ?_) (fun c_2 => ?_)
  · exact absurd (inB_nI (by omega) (by omega) (by decide)) c_2
  · have c_2 := Decidable.of_not_not c_2
    refine g_aload_n X 0 dX5_share_14 rfl rfl ?_
    refine g_get X 10 0 cm10 rfl 14 (by decide) hiX5 (by decide +kernel) rfl rfl dX5_share_15 ?_
    refine g_iload_n X 1 dX5_share_18 rfl rfl ?_
    refine g_lald X 19 0 cm19 j (by omega) (by decide) rfl dX5_share_19 ?_
    refine g_goto X 26 dX5_share_20 (by decide) ?_
    exact g_lret X rfl dX5_share_26 ⟨by rw [k19u_1], rfl, by subst hu_1; rfl⟩

set_option maxRecDepth 100000 in
set_option maxHeartbeats 4000000 in
/-- round -/
theorem m_round_u {l : Launch} {D : va_G} {ta : Nat → ClassId} {pl : Nat → Nat} {bs : Nat} {al : Ad} {Z : Wo} {u : St} (x : Int32) (h : ¬ inB x 1 (u 5 0)) : GD l D ta pl bs yX5_round wsX5_round (rmF 2 43) [.ref (al 10 0), .int x] al (mM Z ta al u) (some (.int (-11))) (mM Z ta al (st u 0 0 0)) := by
  refine GM.of (by decide) rfl (Nat.le_of_ble_eq_true rfl) ?_
  intro p e s m args below meth c X hnm
  have hiX5 : ∀ w ∈ u_ws RX5 TX5 22, w ∈ wsX5_round := by decide +kernel
  refine g_lv (lv' := [(0, .ref (al 10 0)), (1, .int x)]) [0, 1] rfl ?_
  refine g_aload_n X 0 dX5_round_0 rfl rfl ?_
  refine g_iconst X (v := nI 0) dX5_round_1 (by decide) ?_
  refine g_put X tyX5 tyX5_ok nmX5 10 0 cm10 rfl 0 (by decide) hiX5 (by decide +kernel) rfl rfl (ty := .int) (by decide +kernel) rfl rfl (Nat.le_of_ble_eq_true rfl) _ um_thrown dX5_round_2 ?_
  generalize hu_1 : st u 0 0 0 = u_1
  have k5u_1 : u_1 5 0 = u 5 0 := by rw [← hu_1]; first | rfl | exact st_nf (by omega)
  refine g_aload_n X 0 dX5_round_5 rfl rfl ?_
  refine g_iload_n X 1 dX5_round_6 rfl rfl ?_
  refine g_callDV1 (n := 1) X 10 0 [.int x] cm10 rfl (m_isItem x) gX5_round_X5_isItem rfl ⟨rfl, rfl⟩ (by decide +kernel) ⟨by decide, by decide⟩ rfl (Nat.le_of_ble_eq_true rfl) dX5_round_7 ⟨Nat.zero_le _, Nat.zero_le _⟩ _ rfl ?_
  refine g_if_eq X 22 dX5_round_10 (by decide) (bN_eq0) (fun c_2 => ?_) (fun c_2 => ?_)
  · refine g_bipush X (v := -11) dX5_round_22 (by decide) ?_
    exact g_iret X rfl dX5_round_24 ⟨rfl, rfl, by subst hu_1; rfl⟩
  · have c_2 := Decidable.of_not_not c_2
    rw [k5u_1] at c_2
    exact absurd c_2 h

set_option maxRecDepth 100000 in
set_option maxHeartbeats 4000000 in
/-- round -/
theorem m_round_1 {l : Launch} {D : va_G} {ta : Nat → ClassId} {pl : Nat → Nat} {bs : Nat} {al : Ad} {Z : Wo} {u : St} (i : Nat) (hi1 : 1 ≤ i) (hi2 : i ≤ u 5 0) (h5 : u 5 0 ≤ 400) : GD l D ta pl bs yX5_round wsX5_round (rmF 2 43) [.ref (al 10 0), .int (nI i)] al (mM Z ta al u) (some (.int (nI (u 17 i)))) (mM Z ta al (st u 0 0 0)) := by
  refine GM.of (by decide) rfl (Nat.le_of_ble_eq_true rfl) ?_
  intro p e s m args below meth c X hnm
  have hiX5 : ∀ w ∈ u_ws RX5 TX5 22, w ∈ wsX5_round := by decide +kernel
  refine g_lv (lv' := [(0, .ref (al 10 0)), (1, .int (nI i))]) [0, 1] rfl ?_
  refine g_aload_n X 0 dX5_round_0 rfl rfl ?_
  refine g_iconst X (v := nI 0) dX5_round_1 (by decide) ?_
  refine g_put X tyX5 tyX5_ok nmX5 10 0 cm10 rfl 0 (by decide) hiX5 (by decide +kernel) rfl rfl (ty := .int) (by decide +kernel) rfl rfl (Nat.le_of_ble_eq_true rfl) _ um_thrown dX5_round_2 ?_
  generalize hu_1 : st u 0 0 0 = u_1
  have k5u_1 : u_1 5 0 = u 5 0 := by rw [← hu_1]; first | rfl | exact st_nf (by omega)
  have k17u_1 : u_1 17 i = u 17 i := by rw [← hu_1]; first | rfl | exact st_nf (by omega)
  refine g_aload_n X 0 dX5_round_5 rfl rfl ?_
  refine g_iload_n X 1 dX5_round_6 rfl rfl ?_
  refine g_callDV1 (n := 1) X 10 0 [.int (nI i)] cm10 rfl (m_isItem ((nI i))) gX5_round_X5_isItem rfl ⟨rfl, rfl⟩ (by decide +kernel) ⟨by decide, by decide⟩ rfl (Nat.le_of_ble_eq_true rfl) dX5_round_7 ⟨Nat.zero_le _, Nat.zero_le _⟩ _ rfl ?_
  refine g_if_eq X 22 dX5_round_10 (by decide) (bN_eq0) (fun c_2 => ?_) (fun c_2 => ?_)
  · rw [k5u_1] at c_2
    exact absurd (inB_nI hi1 hi2 (by omega)) c_2
  · have c_2 := Decidable.of_not_not c_2
    refine g_aload_n X 0 dX5_round_13 rfl rfl ?_
    refine g_get X 10 0 cm10 rfl 12 (by decide) hiX5 (by decide +kernel) rfl rfl dX5_round_14 ?_
    refine g_iload_n X 1 dX5_round_17 rfl rfl ?_
    refine g_iald X 17 0 cm17 i (by omega) (by decide) rfl dX5_round_18 ?_
    refine g_goto X 24 dX5_round_19 (by decide) ?_
    exact g_iret X rfl dX5_round_24 ⟨by rw [k17u_1], rfl, by subst hu_1; rfl⟩

set_option maxRecDepth 100000 in
set_option maxHeartbeats 4000000 in
/-- missed -/
theorem m_missed_u {l : Launch} {D : va_G} {ta : Nat → ClassId} {pl : Nat → Nat} {bs : Nat} {al : Ad} {Z : Wo} {u : St} (x : Int32) (h : ¬ inB x 1 (u 5 0)) : GD l D ta pl bs yX5_missed wsX5_missed (rmF 2 43) [.ref (al 10 0), .int x] al (mM Z ta al u) (some (.int (-11))) (mM Z ta al (st u 0 0 0)) := by
  refine GM.of (by decide) rfl (Nat.le_of_ble_eq_true rfl) ?_
  intro p e s m args below meth c X hnm
  have hiX5 : ∀ w ∈ u_ws RX5 TX5 22, w ∈ wsX5_missed := by decide +kernel
  refine g_lv (lv' := [(0, .ref (al 10 0)), (1, .int x)]) [0, 1] rfl ?_
  refine g_aload_n X 0 dX5_missed_0 rfl rfl ?_
  refine g_iconst X (v := nI 0) dX5_missed_1 (by decide) ?_
  refine g_put X tyX5 tyX5_ok nmX5 10 0 cm10 rfl 0 (by decide) hiX5 (by decide +kernel) rfl rfl (ty := .int) (by decide +kernel) rfl rfl (Nat.le_of_ble_eq_true rfl) _ um_thrown dX5_missed_2 ?_
  generalize hu_1 : st u 0 0 0 = u_1
  have k5u_1 : u_1 5 0 = u 5 0 := by rw [← hu_1]; first | rfl | exact st_nf (by omega)
  refine g_aload_n X 0 dX5_missed_5 rfl rfl ?_
  refine g_iload_n X 1 dX5_missed_6 rfl rfl ?_
  refine g_callDV1 (n := 1) X 10 0 [.int x] cm10 rfl (m_isItem x) gX5_missed_X5_isItem rfl ⟨rfl, rfl⟩ (by decide +kernel) ⟨by decide, by decide⟩ rfl (Nat.le_of_ble_eq_true rfl) dX5_missed_7 ⟨Nat.zero_le _, Nat.zero_le _⟩ _ rfl ?_
  refine g_if_ne X 16 dX5_missed_10 (by decide) (bN_eq0) (fun c_2 => ?_) (fun c_2 => ?_)
  · have c_2 := Decidable.of_not_not c_2
    rw [k5u_1] at c_2
    exact absurd c_2 h
  · refine g_bipush X (v := -11) dX5_missed_13 (by decide) ?_
    exact g_iret X rfl dX5_missed_15 ⟨rfl, rfl, by subst hu_1; rfl⟩

set_option maxRecDepth 100000 in
set_option maxHeartbeats 4000000 in
/-- missed -/
theorem m_missed_s {l : Launch} {D : va_G} {ta : Nat → ClassId} {pl : Nat → Nat} {bs : Nat} {al : Ad} {Z : Wo} {u : St} (i : Nat) (hi1 : 1 ≤ i) (hi2 : i ≤ u 5 0) (h5 : u 5 0 ≤ 400) (hp : ¬ nI (u 15 i) = nI 1) : GD l D ta pl bs yX5_missed wsX5_missed (rmF 2 43) [.ref (al 10 0), .int (nI i)] al (mM Z ta al u) (some (.int (-13))) (mM Z ta al (st u 0 0 0)) := by
  refine GM.of (by decide) rfl (Nat.le_of_ble_eq_true rfl) ?_
  intro p e s m args below meth c X hnm
  have hiX5 : ∀ w ∈ u_ws RX5 TX5 22, w ∈ wsX5_missed := by decide +kernel
  refine g_lv (lv' := [(0, .ref (al 10 0)), (1, .int (nI i))]) [0, 1] rfl ?_
  refine g_aload_n X 0 dX5_missed_0 rfl rfl ?_
  refine g_iconst X (v := nI 0) dX5_missed_1 (by decide) ?_
  refine g_put X tyX5 tyX5_ok nmX5 10 0 cm10 rfl 0 (by decide) hiX5 (by decide +kernel) rfl rfl (ty := .int) (by decide +kernel) rfl rfl (Nat.le_of_ble_eq_true rfl) _ um_thrown dX5_missed_2 ?_
  generalize hu_1 : st u 0 0 0 = u_1
  have k5u_1 : u_1 5 0 = u 5 0 := by rw [← hu_1]; first | rfl | exact st_nf (by omega)
  have k15u_1 : u_1 15 i = u 15 i := by rw [← hu_1]; first | rfl | exact st_nf (by omega)
  refine g_aload_n X 0 dX5_missed_5 rfl rfl ?_
  refine g_iload_n X 1 dX5_missed_6 rfl rfl ?_
  refine g_callDV1 (n := 1) X 10 0 [.int (nI i)] cm10 rfl (m_isItem ((nI i))) gX5_missed_X5_isItem rfl ⟨rfl, rfl⟩ (by decide +kernel) ⟨by decide, by decide⟩ rfl (Nat.le_of_ble_eq_true rfl) dX5_missed_7 ⟨Nat.zero_le _, Nat.zero_le _⟩ _ rfl ?_
  refine g_if_ne X 16 dX5_missed_10 (by decide) (bN_eq0) (fun c_2 => ?_) (fun c_2 => ?_)
  · have c_2 := Decidable.of_not_not c_2
    refine g_aload_n X 0 dX5_missed_16 rfl rfl ?_
    refine g_get X 10 0 cm10 rfl 10 (by decide) hiX5 (by decide +kernel) rfl rfl dX5_missed_17 ?_
    refine g_iload_n X 1 dX5_missed_20 rfl rfl ?_
    refine g_iald X 15 0 cm15 i (by omega) (by decide) rfl dX5_missed_21 ?_
    refine g_iconst X (v := nI 1) dX5_missed_22 (by decide) ?_
    refine g_icmp_eq X 29 dX5_missed_23 (by decide) (Iff.rfl) (fun c_3 => ?_) (fun c_3 => ?_)
    · rw [k15u_1] at c_3
      exact absurd c_3 hp
    · refine g_bipush X (v := -13) dX5_missed_26 (by decide) ?_
      exact g_iret X rfl dX5_missed_28 ⟨rfl, rfl, by subst hu_1; rfl⟩
  · rw [k5u_1] at c_2
    exact absurd (inB_nI hi1 hi2 (by omega)) c_2

set_option maxRecDepth 100000 in
set_option maxHeartbeats 4000000 in
/-- missed -/
theorem m_missed_1 {l : Launch} {D : va_G} {ta : Nat → ClassId} {pl : Nat → Nat} {bs : Nat} {al : Ad} {Z : Wo} {u : St} (i : Nat) (hi1 : 1 ≤ i) (hi2 : i ≤ u 5 0) (h5 : u 5 0 ≤ 400) (hp : nI (u 15 i) = nI 1) : GD l D ta pl bs yX5_missed wsX5_missed (rmF 2 43) [.ref (al 10 0), .int (nI i)] al (mM Z ta al u) (some (.int (nI (u 16 i)))) (mM Z ta al (st (st u 0 0 0) 15 i 2)) := by
  refine GM.of (by decide) rfl (Nat.le_of_ble_eq_true rfl) ?_
  intro p e s m args below meth c X hnm
  have hiX5 : ∀ w ∈ u_ws RX5 TX5 22, w ∈ wsX5_missed := by decide +kernel
  refine g_lv (lv' := [(0, .ref (al 10 0)), (1, .int (nI i))]) [0, 1] rfl ?_
  refine g_aload_n X 0 dX5_missed_0 rfl rfl ?_
  refine g_iconst X (v := nI 0) dX5_missed_1 (by decide) ?_
  refine g_put X tyX5 tyX5_ok nmX5 10 0 cm10 rfl 0 (by decide) hiX5 (by decide +kernel) rfl rfl (ty := .int) (by decide +kernel) rfl rfl (Nat.le_of_ble_eq_true rfl) _ um_thrown dX5_missed_2 ?_
  generalize hu_1 : st u 0 0 0 = u_1
  have k5u_1 : u_1 5 0 = u 5 0 := by rw [← hu_1]; first | rfl | exact st_nf (by omega)
  have k15u_1 : u_1 15 i = u 15 i := by rw [← hu_1]; first | rfl | exact st_nf (by omega)
  have k16u_1 : u_1 16 i = u 16 i := by rw [← hu_1]; first | rfl | exact st_nf (by omega)
  refine g_aload_n X 0 dX5_missed_5 rfl rfl ?_
  refine g_iload_n X 1 dX5_missed_6 rfl rfl ?_
  refine g_callDV1 (n := 1) X 10 0 [.int (nI i)] cm10 rfl (m_isItem ((nI i))) gX5_missed_X5_isItem rfl ⟨rfl, rfl⟩ (by decide +kernel) ⟨by decide, by decide⟩ rfl (Nat.le_of_ble_eq_true rfl) dX5_missed_7 ⟨Nat.zero_le _, Nat.zero_le _⟩ _ rfl ?_
  refine g_if_ne X 16 dX5_missed_10 (by decide) (bN_eq0) (fun c_2 => ?_) (fun c_2 => ?_)
  · have c_2 := Decidable.of_not_not c_2
    refine g_aload_n X 0 dX5_missed_16 rfl rfl ?_
    refine g_get X 10 0 cm10 rfl 10 (by decide) hiX5 (by decide +kernel) rfl rfl dX5_missed_17 ?_
    refine g_iload_n X 1 dX5_missed_20 rfl rfl ?_
    refine g_iald X 15 0 cm15 i (by omega) (by decide) rfl dX5_missed_21 ?_
    refine g_iconst X (v := nI 1) dX5_missed_22 (by decide) ?_
    refine g_icmp_eq X 29 dX5_missed_23 (by decide) (Iff.rfl) (fun c_3 => ?_) (fun c_3 => ?_)
    · refine g_aload_n X 0 dX5_missed_29 rfl rfl ?_
      refine g_get X 10 0 cm10 rfl 10 (by decide) hiX5 (by decide +kernel) rfl rfl dX5_missed_30 ?_
      refine g_iload_n X 1 dX5_missed_33 rfl rfl ?_
      refine g_iconst X (v := nI 2) dX5_missed_34 (by decide) ?_
      refine g_iast X 15 0 cm15 i (by omega) (by decide) _ um_a15 dX5_missed_35 ?_
      generalize hu_4 : st u_1 15 i 2 = u_4
      have k5u_4 : u_4 5 0 = u_1 5 0 := by rw [← hu_4]; first | rfl | exact st_nf (by omega)
      have k16u_4 : u_4 16 i = u_1 16 i := by rw [← hu_4]; first | rfl | exact st_nf (by omega)
      refine g_aload_n X 0 dX5_missed_36 rfl rfl ?_
      refine g_get X 10 0 cm10 rfl 11 (by decide) hiX5 (by decide +kernel) rfl rfl dX5_missed_37 ?_
      refine g_iload_n X 1 dX5_missed_40 rfl rfl ?_
      refine g_iald X 16 0 cm16 i (by omega) (by decide) rfl dX5_missed_41 ?_
      exact g_iret X rfl dX5_missed_42 ⟨by rw [k16u_4, k16u_1], rfl, by subst hu_4; subst hu_1; rfl⟩
    · rw [k15u_1] at c_3
      exact absurd hp c_3
  · rw [k5u_1] at c_2
    exact absurd (inB_nI hi1 hi2 (by omega)) c_2

set_option maxRecDepth 100000 in
set_option maxHeartbeats 4000000 in
/-- found -/
theorem m_found_u {l : Launch} {D : va_G} {ta : Nat → ClassId} {pl : Nat → Nat} {bs : Nat} {al : Ad} {Z : Wo} {u : St} (x y : Int32) (h : ¬ inB x 1 (u 5 0)) : GD l D ta pl bs yX5_found wsX5_found (rmF 2 43) [.ref (al 10 0), .int x, .int y] al (mM Z ta al u) (some (.int (-11))) (mM Z ta al (st u 0 0 0)) := by
  refine GM.of (by decide) rfl (Nat.le_of_ble_eq_true rfl) ?_
  intro p e s m args below meth c X hnm
  have hiX5 : ∀ w ∈ u_ws RX5 TX5 22, w ∈ wsX5_found := by decide +kernel
  refine g_lv (lv' := [(0, .ref (al 10 0)), (1, .int x), (2, .int y)]) [0, 1, 2] rfl ?_
  refine g_aload_n X 0 dX5_found_0 rfl rfl ?_
  refine g_iconst X (v := nI 0) dX5_found_1 (by decide) ?_
  refine g_put X tyX5 tyX5_ok nmX5 10 0 cm10 rfl 0 (by decide) hiX5 (by decide +kernel) rfl rfl (ty := .int) (by decide +kernel) rfl rfl (Nat.le_of_ble_eq_true rfl) _ um_thrown dX5_found_2 ?_
  generalize hu_1 : st u 0 0 0 = u_1
  have k5u_1 : u_1 5 0 = u 5 0 := by rw [← hu_1]; first | rfl | exact st_nf (by omega)
  refine g_aload_n X 0 dX5_found_5 rfl rfl ?_
  refine g_iload_n X 1 dX5_found_6 rfl rfl ?_
  refine g_callDV1 (n := 1) X 10 0 [.int x] cm10 rfl (m_isItem x) gX5_found_X5_isItem rfl ⟨rfl, rfl⟩ (by decide +kernel) ⟨by decide, by decide⟩ rfl (Nat.le_of_ble_eq_true rfl) dX5_found_7 ⟨Nat.zero_le _, Nat.zero_le _⟩ _ rfl ?_
  refine g_if_ne X 16 dX5_found_10 (by decide) (bN_eq0) (fun c_2 => ?_) (fun c_2 => ?_)
  · have c_2 := Decidable.of_not_not c_2
    rw [k5u_1] at c_2
    exact absurd c_2 h
  · refine g_bipush X (v := -11) dX5_found_13 (by decide) ?_
    exact g_iret X rfl dX5_found_15 ⟨rfl, rfl, by subst hu_1; rfl⟩

set_option maxRecDepth 100000 in
set_option maxHeartbeats 4000000 in
/-- found -/
theorem m_found_s {l : Launch} {D : va_G} {ta : Nat → ClassId} {pl : Nat → Nat} {bs : Nat} {al : Ad} {Z : Wo} {u : St} (i : Nat) (y : Int32) (hi1 : 1 ≤ i) (hi2 : i ≤ u 5 0) (h5 : u 5 0 ≤ 400) (hp : ¬ nI (u 15 i) = nI 2) : GD l D ta pl bs yX5_found wsX5_found (rmF 2 43) [.ref (al 10 0), .int (nI i), .int y] al (mM Z ta al u) (some (.int (-13))) (mM Z ta al (st u 0 0 0)) := by
  refine GM.of (by decide) rfl (Nat.le_of_ble_eq_true rfl) ?_
  intro p e s m args below meth c X hnm
  have hiX5 : ∀ w ∈ u_ws RX5 TX5 22, w ∈ wsX5_found := by decide +kernel
  refine g_lv (lv' := [(0, .ref (al 10 0)), (1, .int (nI i)), (2, .int y)]) [0, 1, 2] rfl ?_
  refine g_aload_n X 0 dX5_found_0 rfl rfl ?_
  refine g_iconst X (v := nI 0) dX5_found_1 (by decide) ?_
  refine g_put X tyX5 tyX5_ok nmX5 10 0 cm10 rfl 0 (by decide) hiX5 (by decide +kernel) rfl rfl (ty := .int) (by decide +kernel) rfl rfl (Nat.le_of_ble_eq_true rfl) _ um_thrown dX5_found_2 ?_
  generalize hu_1 : st u 0 0 0 = u_1
  have k5u_1 : u_1 5 0 = u 5 0 := by rw [← hu_1]; first | rfl | exact st_nf (by omega)
  have k15u_1 : u_1 15 i = u 15 i := by rw [← hu_1]; first | rfl | exact st_nf (by omega)
  refine g_aload_n X 0 dX5_found_5 rfl rfl ?_
  refine g_iload_n X 1 dX5_found_6 rfl rfl ?_
  refine g_callDV1 (n := 1) X 10 0 [.int (nI i)] cm10 rfl (m_isItem ((nI i))) gX5_found_X5_isItem rfl ⟨rfl, rfl⟩ (by decide +kernel) ⟨by decide, by decide⟩ rfl (Nat.le_of_ble_eq_true rfl) dX5_found_7 ⟨Nat.zero_le _, Nat.zero_le _⟩ _ rfl ?_
  refine g_if_ne X 16 dX5_found_10 (by decide) (bN_eq0) (fun c_2 => ?_) (fun c_2 => ?_)
  · have c_2 := Decidable.of_not_not c_2
    refine g_aload_n X 0 dX5_found_16 rfl rfl ?_
    refine g_get X 10 0 cm10 rfl 10 (by decide) hiX5 (by decide +kernel) rfl rfl dX5_found_17 ?_
    refine g_iload_n X 1 dX5_found_20 rfl rfl ?_
    refine g_iald X 15 0 cm15 i (by omega) (by decide) rfl dX5_found_21 ?_
    refine g_iconst X (v := nI 2) dX5_found_22 (by decide) ?_
    refine g_icmp_eq X 29 dX5_found_23 (by decide) (Iff.rfl) (fun c_3 => ?_) (fun c_3 => ?_)
    · rw [k15u_1] at c_3
      exact absurd c_3 hp
    · refine g_bipush X (v := -13) dX5_found_26 (by decide) ?_
      exact g_iret X rfl dX5_found_28 ⟨rfl, rfl, by subst hu_1; rfl⟩
  · rw [k5u_1] at c_2
    exact absurd (inB_nI hi1 hi2 (by omega)) c_2

set_option maxRecDepth 100000 in
set_option maxHeartbeats 4000000 in
/-- found -/
theorem m_found_t {l : Launch} {D : va_G} {ta : Nat → ClassId} {pl : Nat → Nat} {bs : Nat} {al : Ad} {Z : Wo} {u : St} (i : Nat) (y : Int32) (hi1 : 1 ≤ i) (hi2 : i ≤ u 5 0) (h5 : u 5 0 ≤ 400) (h1 : 1 ≤ u 1 0) (h2 : u 1 0 ≤ 200) (hp : nI (u 15 i) = nI 2) (hy : ¬ inB y 0 (u 1 0 - 1)) : GD l D ta pl bs yX5_found wsX5_found (rmF 2 43) [.ref (al 10 0), .int (nI i), .int y] al (mM Z ta al u) (some (.int (nI 0))) (mM Z ta al (st (st u 0 0 0) 0 0 1)) := by
  refine GM.of (by decide) rfl (Nat.le_of_ble_eq_true rfl) ?_
  intro p e s m args below meth c X hnm
  have hiX5 : ∀ w ∈ u_ws RX5 TX5 22, w ∈ wsX5_found := by decide +kernel
  refine g_lv (lv' := [(0, .ref (al 10 0)), (1, .int (nI i)), (2, .int y)]) [0, 1, 2] rfl ?_
  refine g_aload_n X 0 dX5_found_0 rfl rfl ?_
  refine g_iconst X (v := nI 0) dX5_found_1 (by decide) ?_
  refine g_put X tyX5 tyX5_ok nmX5 10 0 cm10 rfl 0 (by decide) hiX5 (by decide +kernel) rfl rfl (ty := .int) (by decide +kernel) rfl rfl (Nat.le_of_ble_eq_true rfl) _ um_thrown dX5_found_2 ?_
  generalize hu_1 : st u 0 0 0 = u_1
  have k5u_1 : u_1 5 0 = u 5 0 := by rw [← hu_1]; first | rfl | exact st_nf (by omega)
  have k15u_1 : u_1 15 i = u 15 i := by rw [← hu_1]; first | rfl | exact st_nf (by omega)
  have k16u_1 : u_1 16 i = u 16 i := by rw [← hu_1]; first | rfl | exact st_nf (by omega)
  have k1u_1 : u_1 1 0 = u 1 0 := by rw [← hu_1]; first | rfl | exact st_nf (by omega)
  refine g_aload_n X 0 dX5_found_5 rfl rfl ?_
  refine g_iload_n X 1 dX5_found_6 rfl rfl ?_
  refine g_callDV1 (n := 1) X 10 0 [.int (nI i)] cm10 rfl (m_isItem ((nI i))) gX5_found_X5_isItem rfl ⟨rfl, rfl⟩ (by decide +kernel) ⟨by decide, by decide⟩ rfl (Nat.le_of_ble_eq_true rfl) dX5_found_7 ⟨Nat.zero_le _, Nat.zero_le _⟩ _ rfl ?_
  refine g_if_ne X 16 dX5_found_10 (by decide) (bN_eq0) (fun c_2 => ?_) (fun c_2 => ?_)
  · have c_2 := Decidable.of_not_not c_2
    refine g_aload_n X 0 dX5_found_16 rfl rfl ?_
    refine g_get X 10 0 cm10 rfl 10 (by decide) hiX5 (by decide +kernel) rfl rfl dX5_found_17 ?_
    refine g_iload_n X 1 dX5_found_20 rfl rfl ?_
    refine g_iald X 15 0 cm15 i (by omega) (by decide) rfl dX5_found_21 ?_
    refine g_iconst X (v := nI 2) dX5_found_22 (by decide) ?_
    refine g_icmp_eq X 29 dX5_found_23 (by decide) (Iff.rfl) (fun c_3 => ?_) (fun c_3 => ?_)
    · refine g_aload_n X 0 dX5_found_29 rfl rfl ?_
      refine g_iload_n X 2 dX5_found_30 rfl rfl ?_
      refine g_iconst X (v := nI 0) dX5_found_31 (by decide) ?_
      refine g_aload_n X 0 dX5_found_32 rfl rfl ?_
      refine g_get X 10 0 cm10 rfl 1 (by decide) hiX5 (by decide +kernel) rfl rfl dX5_found_33 ?_
      refine g_iconst X (v := nI 1) dX5_found_36 (by decide) ?_
      refine g_isub X dX5_found_37 (pk_sub (by omega)) ?_
      refine g_callDS1 (n := 3) X [.int y, .int (nI 0), .int (nI ((u_1 1 0) - 1))] (m_in y ((nI 0)) ((nI ((u_1 1 0) - 1)))) gX5_found_X5_in rfl ⟨rfl, rfl⟩ (by decide +kernel) ⟨by decide, by decide⟩ rfl (Nat.le_of_ble_eq_true rfl) dX5_found_38 ⟨Nat.zero_le _, Nat.zero_le _⟩ _ rfl ?_
      refine g_if_eq X 48 dX5_found_41 (by decide) (bN_eq0) (fun c_4 => ?_) (fun c_4 => ?_)
      · refine g_iconst X (v := nI 1) dX5_found_48 (by decide) ?_
        refine g_put X tyX5 tyX5_ok nmX5 10 0 cm10 rfl 0 (by decide) hiX5 (by decide +kernel) rfl rfl (ty := .int) (by decide +kernel) rfl rfl (Nat.le_of_ble_eq_true rfl) _ um_thrown dX5_found_49 ?_
        generalize hu_5 : st u_1 0 0 1 = u_5
        have k5u_5 : u_5 5 0 = u_1 5 0 := by rw [← hu_5]; first | rfl | exact st_nf (by omega)
        have k15u_5 : u_5 15 i = u_1 15 i := by rw [← hu_5]; first | rfl | exact st_nf (by omega)
        have k16u_5 : u_5 16 i = u_1 16 i := by rw [← hu_5]; first | rfl | exact st_nf (by omega)
        have k1u_5 : u_5 1 0 = u_1 1 0 := by rw [← hu_5]; first | rfl | exact st_nf (by omega)
        refine g_aload_n X 0 dX5_found_52 rfl rfl ?_
        refine g_get X 10 0 cm10 rfl 0 (by decide) hiX5 (by decide +kernel) rfl rfl dX5_found_53 ?_
        have kt9 : u_5 0 0 = 1 := by rw [← hu_5]; rfl
        refine g_if_gt X 69 dX5_found_56 (by decide) (n0_gt (by omega)) (fun c_6 => ?_) (fun c_6 => ?_)
        · refine g_iconst X (v := nI 0) dX5_found_69 (by decide) ?_
          exact g_iret X rfl dX5_found_70 ⟨rfl, rfl, by subst hu_5; subst hu_1; rfl⟩
        · exact absurd (by omega) c_6
      · have c_4 := Decidable.of_not_not c_4
        rw [k1u_1] at c_4
        exact absurd c_4 hy
    · rw [k15u_1] at c_3
      exact absurd hp c_3
  · rw [k5u_1] at c_2
    exact absurd (inB_nI hi1 hi2 (by omega)) c_2

set_option maxRecDepth 100000 in
set_option maxHeartbeats 4000000 in
/-- found -/
theorem m_found_0 {l : Launch} {D : va_G} {ta : Nat → ClassId} {pl : Nat → Nat} {bs : Nat} {al : Ad} {Z : Wo} {u : St} (i t : Nat) (hi1 : 1 ≤ i) (hi2 : i ≤ u 5 0) (h5 : u 5 0 ≤ 400) (h1 : 1 ≤ u 1 0) (h2 : u 1 0 ≤ 200) (hp : nI (u 15 i) = nI 2)(ht : t < u 1 0) (ho : ¬ nI (u 16 i) = nI t) : GD l D ta pl bs yX5_found wsX5_found (rmF 2 43) [.ref (al 10 0), .int (nI i), .int (nI t)] al (mM Z ta al u) (some (.int (nI 0))) (mM Z ta al (st (st u 0 0 0) 0 0 0)) := by
  refine GM.of (by decide) rfl (Nat.le_of_ble_eq_true rfl) ?_
  intro p e s m args below meth c X hnm
  have hiX5 : ∀ w ∈ u_ws RX5 TX5 22, w ∈ wsX5_found := by decide +kernel
  refine g_lv (lv' := [(0, .ref (al 10 0)), (1, .int (nI i)), (2, .int (nI t))]) [0, 1, 2] rfl ?_
  refine g_aload_n X 0 dX5_found_0 rfl rfl ?_
  refine g_iconst X (v := nI 0) dX5_found_1 (by decide) ?_
  refine g_put X tyX5 tyX5_ok nmX5 10 0 cm10 rfl 0 (by decide) hiX5 (by decide +kernel) rfl rfl (ty := .int) (by decide +kernel) rfl rfl (Nat.le_of_ble_eq_true rfl) _ um_thrown dX5_found_2 ?_
  generalize hu_1 : st u 0 0 0 = u_1
  have k5u_1 : u_1 5 0 = u 5 0 := by rw [← hu_1]; first | rfl | exact st_nf (by omega)
  have k15u_1 : u_1 15 i = u 15 i := by rw [← hu_1]; first | rfl | exact st_nf (by omega)
  have k16u_1 : u_1 16 i = u 16 i := by rw [← hu_1]; first | rfl | exact st_nf (by omega)
  have k1u_1 : u_1 1 0 = u 1 0 := by rw [← hu_1]; first | rfl | exact st_nf (by omega)
  refine g_aload_n X 0 dX5_found_5 rfl rfl ?_
  refine g_iload_n X 1 dX5_found_6 rfl rfl ?_
  refine g_callDV1 (n := 1) X 10 0 [.int (nI i)] cm10 rfl (m_isItem ((nI i))) gX5_found_X5_isItem rfl ⟨rfl, rfl⟩ (by decide +kernel) ⟨by decide, by decide⟩ rfl (Nat.le_of_ble_eq_true rfl) dX5_found_7 ⟨Nat.zero_le _, Nat.zero_le _⟩ _ rfl ?_
  refine g_if_ne X 16 dX5_found_10 (by decide) (bN_eq0) (fun c_2 => ?_) (fun c_2 => ?_)
  · have c_2 := Decidable.of_not_not c_2
    refine g_aload_n X 0 dX5_found_16 rfl rfl ?_
    refine g_get X 10 0 cm10 rfl 10 (by decide) hiX5 (by decide +kernel) rfl rfl dX5_found_17 ?_
    refine g_iload_n X 1 dX5_found_20 rfl rfl ?_
    refine g_iald X 15 0 cm15 i (by omega) (by decide) rfl dX5_found_21 ?_
    refine g_iconst X (v := nI 2) dX5_found_22 (by decide) ?_
    refine g_icmp_eq X 29 dX5_found_23 (by decide) (Iff.rfl) (fun c_3 => ?_) (fun c_3 => ?_)
    · refine g_aload_n X 0 dX5_found_29 rfl rfl ?_
      refine g_iload_n X 2 dX5_found_30 rfl rfl ?_
      refine g_iconst X (v := nI 0) dX5_found_31 (by decide) ?_
      refine g_aload_n X 0 dX5_found_32 rfl rfl ?_
      refine g_get X 10 0 cm10 rfl 1 (by decide) hiX5 (by decide +kernel) rfl rfl dX5_found_33 ?_
      refine g_iconst X (v := nI 1) dX5_found_36 (by decide) ?_
      refine g_isub X dX5_found_37 (pk_sub (by omega)) ?_
      refine g_callDS1 (n := 3) X [.int (nI t), .int (nI 0), .int (nI ((u_1 1 0) - 1))] (m_in ((nI t)) ((nI 0)) ((nI ((u_1 1 0) - 1)))) gX5_found_X5_in rfl ⟨rfl, rfl⟩ (by decide +kernel) ⟨by decide, by decide⟩ rfl (Nat.le_of_ble_eq_true rfl) dX5_found_38 ⟨Nat.zero_le _, Nat.zero_le _⟩ _ rfl ?_
      refine g_if_eq X 48 dX5_found_41 (by decide) (bN_eq0) (fun c_4 => ?_) (fun c_4 => ?_)
      · rw [k1u_1] at c_4
        exact absurd (inB_nI (by omega) (by omega) (by omega)) c_4
      · have c_4 := Decidable.of_not_not c_4
        refine g_iconst X (v := nI 0) dX5_found_44 (by decide) ?_
        refine g_goto X 49 dX5_found_45 (by decide) ?_
        refine g_put X tyX5 tyX5_ok nmX5 10 0 cm10 rfl 0 (by decide) hiX5 (by decide +kernel) rfl rfl (ty := .int) (by decide +kernel) rfl rfl (Nat.le_of_ble_eq_true rfl) _ um_thrown dX5_found_49 ?_
        generalize hu_5 : st u_1 0 0 0 = u_5
        have k5u_5 : u_5 5 0 = u_1 5 0 := by rw [← hu_5]; first | rfl | exact st_nf (by omega)
        have k15u_5 : u_5 15 i = u_1 15 i := by rw [← hu_5]; first | rfl | exact st_nf (by omega)
        have k16u_5 : u_5 16 i = u_1 16 i := by rw [← hu_5]; first | rfl | exact st_nf (by omega)
        have k1u_5 : u_5 1 0 = u_1 1 0 := by rw [← hu_5]; first | rfl | exact st_nf (by omega)
        refine g_aload_n X 0 dX5_found_52 rfl rfl ?_
        refine g_get X 10 0 cm10 rfl 0 (by decide) hiX5 (by decide +kernel) rfl rfl dX5_found_53 ?_
        have kt9 : u_5 0 0 = 0 := by rw [← hu_5]; rfl
        refine g_if_gt X 69 dX5_found_56 (by decide) (n0_gt (by omega)) (fun c_6 => ?_) (fun c_6 => ?_)
        · exact absurd c_6 (by omega)
        · refine g_aload_n X 0 dX5_found_59 rfl rfl ?_
          refine g_get X 10 0 cm10 rfl 11 (by decide) hiX5 (by decide +kernel) rfl rfl dX5_found_60 ?_
          refine g_iload_n X 1 dX5_found_63 rfl rfl ?_
          refine g_iald X 16 0 cm16 i (by omega) (by decide) rfl dX5_found_64 ?_
          refine g_iload_n X 2 dX5_found_65 rfl rfl ?_
          refine g_icmp_eq X 71 dX5_found_66 (by decide) (Iff.rfl) (fun c_7 => ?_) (fun c_7 => ?_)
          · rw [k16u_5, k16u_1] at c_7
            exact absurd c_7 ho
          · refine g_iconst X (v := nI 0) dX5_found_69 (by decide) ?_
            exact g_iret X rfl dX5_found_70 ⟨rfl, rfl, by subst hu_5; subst hu_1; rfl⟩
    · rw [k15u_1] at c_3
      exact absurd hp c_3
  · rw [k5u_1] at c_2
    exact absurd (inB_nI hi1 hi2 (by omega)) c_2

set_option maxRecDepth 100000 in
set_option maxHeartbeats 4000000 in
/-- found -/
theorem m_found_1 {l : Launch} {D : va_G} {ta : Nat → ClassId} {pl : Nat → Nat} {bs : Nat} {al : Ad} {Z : Wo} {u : St} (i t : Nat) (hi1 : 1 ≤ i) (hi2 : i ≤ u 5 0) (h5 : u 5 0 ≤ 400) (h1 : 1 ≤ u 1 0) (h2 : u 1 0 ≤ 200) (hp : nI (u 15 i) = nI 2)(ht : t < u 1 0) (ho : nI (u 16 i) = nI t) : GD l D ta pl bs yX5_found wsX5_found (rmF 2 43) [.ref (al 10 0), .int (nI i), .int (nI t)] al (mM Z ta al u) (some (.int (nI 1))) (mM Z ta al (st (st (st u 0 0 0) 0 0 0) 15 i 1)) := by
  refine GM.of (by decide) rfl (Nat.le_of_ble_eq_true rfl) ?_
  intro p e s m args below meth c X hnm
  have hiX5 : ∀ w ∈ u_ws RX5 TX5 22, w ∈ wsX5_found := by decide +kernel
  refine g_lv (lv' := [(0, .ref (al 10 0)), (1, .int (nI i)), (2, .int (nI t))]) [0, 1, 2] rfl ?_
  refine g_aload_n X 0 dX5_found_0 rfl rfl ?_
  refine g_iconst X (v := nI 0) dX5_found_1 (by decide) ?_
  refine g_put X tyX5 tyX5_ok nmX5 10 0 cm10 rfl 0 (by decide) hiX5 (by decide +kernel) rfl rfl (ty := .int) (by decide +kernel) rfl rfl (Nat.le_of_ble_eq_true rfl) _ um_thrown dX5_found_2 ?_
  generalize hu_1 : st u 0 0 0 = u_1
  have k5u_1 : u_1 5 0 = u 5 0 := by rw [← hu_1]; first | rfl | exact st_nf (by omega)
  have k15u_1 : u_1 15 i = u 15 i := by rw [← hu_1]; first | rfl | exact st_nf (by omega)
  have k16u_1 : u_1 16 i = u 16 i := by rw [← hu_1]; first | rfl | exact st_nf (by omega)
  have k1u_1 : u_1 1 0 = u 1 0 := by rw [← hu_1]; first | rfl | exact st_nf (by omega)
  refine g_aload_n X 0 dX5_found_5 rfl rfl ?_
  refine g_iload_n X 1 dX5_found_6 rfl rfl ?_
  refine g_callDV1 (n := 1) X 10 0 [.int (nI i)] cm10 rfl (m_isItem ((nI i))) gX5_found_X5_isItem rfl ⟨rfl, rfl⟩ (by decide +kernel) ⟨by decide, by decide⟩ rfl (Nat.le_of_ble_eq_true rfl) dX5_found_7 ⟨Nat.zero_le _, Nat.zero_le _⟩ _ rfl ?_
  refine g_if_ne X 16 dX5_found_10 (by decide) (bN_eq0) (fun c_2 => ?_) (fun c_2 => ?_)
  · have c_2 := Decidable.of_not_not c_2
    refine g_aload_n X 0 dX5_found_16 rfl rfl ?_
    refine g_get X 10 0 cm10 rfl 10 (by decide) hiX5 (by decide +kernel) rfl rfl dX5_found_17 ?_
    refine g_iload_n X 1 dX5_found_20 rfl rfl ?_
    refine g_iald X 15 0 cm15 i (by omega) (by decide) rfl dX5_found_21 ?_
    refine g_iconst X (v := nI 2) dX5_found_22 (by decide) ?_
    refine g_icmp_eq X 29 dX5_found_23 (by decide) (Iff.rfl) (fun c_3 => ?_) (fun c_3 => ?_)
    · refine g_aload_n X 0 dX5_found_29 rfl rfl ?_
      refine g_iload_n X 2 dX5_found_30 rfl rfl ?_
      refine g_iconst X (v := nI 0) dX5_found_31 (by decide) ?_
      refine g_aload_n X 0 dX5_found_32 rfl rfl ?_
      refine g_get X 10 0 cm10 rfl 1 (by decide) hiX5 (by decide +kernel) rfl rfl dX5_found_33 ?_
      refine g_iconst X (v := nI 1) dX5_found_36 (by decide) ?_
      refine g_isub X dX5_found_37 (pk_sub (by omega)) ?_
      refine g_callDS1 (n := 3) X [.int (nI t), .int (nI 0), .int (nI ((u_1 1 0) - 1))] (m_in ((nI t)) ((nI 0)) ((nI ((u_1 1 0) - 1)))) gX5_found_X5_in rfl ⟨rfl, rfl⟩ (by decide +kernel) ⟨by decide, by decide⟩ rfl (Nat.le_of_ble_eq_true rfl) dX5_found_38 ⟨Nat.zero_le _, Nat.zero_le _⟩ _ rfl ?_
      refine g_if_eq X 48 dX5_found_41 (by decide) (bN_eq0) (fun c_4 => ?_) (fun c_4 => ?_)
      · rw [k1u_1] at c_4
        exact absurd (inB_nI (by omega) (by omega) (by omega)) c_4
      · have c_4 := Decidable.of_not_not c_4
        refine g_iconst X (v := nI 0) dX5_found_44 (by decide) ?_
        refine g_goto X 49 dX5_found_45 (by decide) ?_
        refine g_put X tyX5 tyX5_ok nmX5 10 0 cm10 rfl 0 (by decide) hiX5 (by decide +kernel) rfl rfl (ty := .int) (by decide +kernel) rfl rfl (Nat.le_of_ble_eq_true rfl) _ um_thrown dX5_found_49 ?_
        generalize hu_5 : st u_1 0 0 0 = u_5
        have k5u_5 : u_5 5 0 = u_1 5 0 := by rw [← hu_5]; first | rfl | exact st_nf (by omega)
        have k15u_5 : u_5 15 i = u_1 15 i := by rw [← hu_5]; first | rfl | exact st_nf (by omega)
        have k16u_5 : u_5 16 i = u_1 16 i := by rw [← hu_5]; first | rfl | exact st_nf (by omega)
        have k1u_5 : u_5 1 0 = u_1 1 0 := by rw [← hu_5]; first | rfl | exact st_nf (by omega)
        refine g_aload_n X 0 dX5_found_52 rfl rfl ?_
        refine g_get X 10 0 cm10 rfl 0 (by decide) hiX5 (by decide +kernel) rfl rfl dX5_found_53 ?_
        have kt9 : u_5 0 0 = 0 := by rw [← hu_5]; rfl
        refine g_if_gt X 69 dX5_found_56 (by decide) (n0_gt (by omega)) (fun c_6 => ?_) (fun c_6 => ?_)
        · exact absurd c_6 (by omega)
        · refine g_aload_n X 0 dX5_found_59 rfl rfl ?_
          refine g_get X 10 0 cm10 rfl 11 (by decide) hiX5 (by decide +kernel) rfl rfl dX5_found_60 ?_
          refine g_iload_n X 1 dX5_found_63 rfl rfl ?_
          refine g_iald X 16 0 cm16 i (by omega) (by decide) rfl dX5_found_64 ?_
          refine g_iload_n X 2 dX5_found_65 rfl rfl ?_
          refine g_icmp_eq X 71 dX5_found_66 (by decide) (Iff.rfl) (fun c_7 => ?_) (fun c_7 => ?_)
          · refine g_aload_n X 0 dX5_found_71 rfl rfl ?_
            refine g_get X 10 0 cm10 rfl 10 (by decide) hiX5 (by decide +kernel) rfl rfl dX5_found_72 ?_
            refine g_iload_n X 1 dX5_found_75 rfl rfl ?_
            refine g_iconst X (v := nI 1) dX5_found_76 (by decide) ?_
            refine g_iast X 15 0 cm15 i (by omega) (by decide) _ um_a15 dX5_found_77 ?_
            generalize hu_8 : st u_5 15 i 1 = u_8
            have k5u_8 : u_8 5 0 = u_5 5 0 := by rw [← hu_8]; first | rfl | exact st_nf (by omega)
            have k16u_8 : u_8 16 i = u_5 16 i := by rw [← hu_8]; first | rfl | exact st_nf (by omega)
            have k1u_8 : u_8 1 0 = u_5 1 0 := by rw [← hu_8]; first | rfl | exact st_nf (by omega)
            refine g_iconst X (v := nI 1) dX5_found_78 (by decide) ?_
            exact g_iret X rfl dX5_found_79 ⟨rfl, rfl, by subst hu_8; subst hu_5; subst hu_1; rfl⟩
          · rw [k16u_5, k16u_1] at c_7
            exact absurd ho c_7
    · rw [k15u_1] at c_3
      exact absurd hp c_3
  · rw [k5u_1] at c_2
    exact absurd (inB_nI hi1 hi2 (by omega)) c_2

set_option maxRecDepth 100000 in
set_option maxHeartbeats 4000000 in
/-- the loop of itemOn at 4 -/
theorem l_itemOn {l : Launch} {D : va_G} {ta : Nat → ClassId} {pl : Nat → Nat} {bs : Nat} {al : Ad} {Z : Wo} {p : Program} {e : Env} {s : State} {m : MethodId} {args : Array Value} {below : List Frame} {meth : Method} {c : Code} {u : St} (X : Cx D ta pl bs 4 p s m args meth c cX5_itemOn wsX5_itemOn RX5 (some .int)) (t : Nat) (h1 : 1 ≤ u 1 0) (h2 : u 1 0 ≤ 200) : ∀ (n9 i : Nat), i ≤ u 1 0 → u 1 0 + 1 ≤ i + n9 → WW D bs 4 p l e (rmF 0 0) s m args below meth c (QQ D bs below args s 0 0 (fun r al' C' => r = some (.int (nI (mI u t (u 1 0)))) ∧ al' = al ∧ C' = mM Z ta al u)) al (mM Z ta al u) 0 0 4 [(3, .int (nI i)), (2, .int (nI (mI u t i))), (1, .int (nI t)), (0, .ref (al 10 0))] [] := by
  have hiX5 : ∀ w ∈ u_ws RX5 TX5 22, w ∈ wsX5_itemOn := by decide +kernel
  intro n9
  induction n9 with
  | zero => intro i h8 h9; exact absurd h9 (by omega)
  | succ n9 ih =>
    intro i h8 h9
    refine g_iload_n X 0 dX5_itemOn_4 rfl rfl ?_
    refine g_aload_n X 3 dX5_itemOn_5 rfl rfl ?_
    refine g_get X 10 0 cm10 rfl 1 (by decide) hiX5 (by decide +kernel) rfl rfl dX5_itemOn_6 ?_
    refine g_icmp_ge X 39 dX5_itemOn_9 (by decide) (nI_leI (by omega) (by omega)) (fun c_1 => ?_) (fun c_1 => ?_)
    · refine g_iload_n X 1 dX5_itemOn_39 rfl rfl ?_
      exact g_iret X rfl dX5_itemOn_40 ⟨by have e9 : i = u 1 0 := (by omega); rw [e9], rfl, rfl⟩
    · refine g_aload_n X 3 dX5_itemOn_12 rfl rfl ?_
      refine g_get X 10 0 cm10 rfl 3 (by decide) hiX5 (by decide +kernel) rfl rfl dX5_itemOn_13 ?_
      refine g_iload_n X 0 dX5_itemOn_16 rfl rfl ?_
      refine g_iald X 11 0 cm11 i (by omega) (by decide) rfl dX5_itemOn_17 ?_
      refine g_iload_n X 2 dX5_itemOn_18 rfl rfl ?_
      refine g_icmp_ne X 31 dX5_itemOn_19 (by decide) (Iff.rfl) (fun c_2 => ?_) (fun c_2 => ?_)
      · refine g_iload_n X 1 dX5_itemOn_31 rfl rfl ?_
        refine g_istore_n X [(2, .int (nI (mI u t i))), (3, .int (nI i)), (1, .int (nI t)), (0, .ref (al 10 0))] dX5_itemOn_32 rfl (by decide) rfl ?_
        refine g_iinc X 1 [(3, .int (nI (i + 1))), (2, .int (nI (mI u t i))), (1, .int (nI t)), (0, .ref (al 10 0))] dX5_itemOn_33 rfl (nI_inc (by decide)) (by decide) rfl ?_
        refine g_goto X 4 dX5_itemOn_36 (by decide) ?_
        refine g_lv [0, 1, 2, 3] rfl ?_
        have q9 := ih (i + 1) (by omega) (by omega)
        rw [show mI u t (i + 1) = mI u t i from by rw [mI, if_neg c_2]] at q9
        exact q9
      · refine g_aload_n X 3 dX5_itemOn_22 rfl rfl ?_
        refine g_get X 10 0 cm10 rfl 4 (by decide) hiX5 (by decide +kernel) rfl rfl dX5_itemOn_23 ?_
        refine g_iload_n X 0 dX5_itemOn_26 rfl rfl ?_
        refine g_iald X 12 0 cm12 i (by omega) (by decide) rfl dX5_itemOn_27 ?_
        refine g_goto X 32 dX5_itemOn_28 (by decide) ?_
        refine g_istore_n X [(2, .int (nI (u 12 i))), (3, .int (nI i)), (1, .int (nI t)), (0, .ref (al 10 0))] dX5_itemOn_32 rfl (by decide) rfl ?_
        refine g_iinc X 1 [(3, .int (nI (i + 1))), (2, .int (nI (u 12 i))), (1, .int (nI t)), (0, .ref (al 10 0))] dX5_itemOn_33 rfl (nI_inc (by decide)) (by decide) rfl ?_
        refine g_goto X 4 dX5_itemOn_36 (by decide) ?_
        refine g_lv [0, 1, 2, 3] rfl ?_
        have q9 := ih (i + 1) (by omega) (by omega)
        rw [show mI u t (i + 1) = u 12 i from by rw [mI, if_pos c_2]] at q9
        exact q9

set_option maxRecDepth 100000 in
set_option maxHeartbeats 4000000 in
/-- itemOn -/
theorem m_itemOn {l : Launch} {D : va_G} {ta : Nat → ClassId} {pl : Nat → Nat} {bs : Nat} {al : Ad} {Z : Wo} {u : St} (t : Nat) (h1 : 1 ≤ u 1 0) (h2 : u 1 0 ≤ 200) : GD l D ta pl bs yX5_itemOn wsX5_itemOn (rmF 0 0) [.ref (al 10 0), .int (nI t)] al (mM Z ta al u) (some (.int (nI (mI u t (u 1 0))))) (mM Z ta al u) := by
  refine GM.of (by decide) rfl (Nat.le_of_ble_eq_true rfl) ?_
  intro p e s m args below meth c X hnm
  refine g_lv (lv' := [(0, .ref (al 10 0)), (1, .int (nI t))]) [0, 1] rfl ?_
  refine g_iconst X (v := nI 0) dX5_itemOn_0 (by decide) ?_
  refine g_istore_n X [(2, .int (nI 0)), (0, .ref (al 10 0)), (1, .int (nI t))] dX5_itemOn_1 rfl (by decide) rfl ?_
  refine g_iconst X (v := nI 0) dX5_itemOn_2 (by decide) ?_
  refine g_istore_n X [(3, .int (nI 0)), (2, .int (nI 0)), (0, .ref (al 10 0)), (1, .int (nI t))] dX5_itemOn_3 rfl (by decide) rfl ?_
  refine g_lv [0, 1, 3, 2] rfl ?_
  exact l_itemOn X t h1 h2 (u 1 0 + 1) 0 (Nat.zero_le _) (by omega)

set_option maxRecDepth 100000 in
set_option maxHeartbeats 4000000 in
/-- tray -/
theorem m_tray_1 {l : Launch} {D : va_G} {ta : Nat → ClassId} {pl : Nat → Nat} {bs : Nat} {al : Ad} {Z : Wo} {u : St} (t : Nat) (h1 : 1 ≤ u 1 0) (h2 : u 1 0 ≤ 200) (ht : t < u 1 0) : GD l D ta pl bs yX5_tray wsX5_tray (rmF 1 23) [.ref (al 10 0), .int (nI t)] al (mM Z ta al u) (some (.int (nI (mI (st u 0 0 0) t (st u 0 0 0 1 0))))) (mM Z ta al (st u 0 0 0)) := by
  refine GM.of (by decide) rfl (Nat.le_of_ble_eq_true rfl) ?_
  intro p e s m args below meth c X hnm
  have hiX5 : ∀ w ∈ u_ws RX5 TX5 22, w ∈ wsX5_tray := by decide +kernel
  refine g_lv (lv' := [(0, .ref (al 10 0)), (1, .int (nI t))]) [0, 1] rfl ?_
  refine g_aload_n X 0 dX5_tray_0 rfl rfl ?_
  refine g_iload_n X 1 dX5_tray_1 rfl rfl ?_
  refine g_iconst X (v := nI 0) dX5_tray_2 (by decide) ?_
  refine g_aload_n X 0 dX5_tray_3 rfl rfl ?_
  refine g_get X 10 0 cm10 rfl 1 (by decide) hiX5 (by decide +kernel) rfl rfl dX5_tray_4 ?_
  refine g_iconst X (v := nI 1) dX5_tray_7 (by decide) ?_
  refine g_isub X dX5_tray_8 (pk_sub (by omega)) ?_
  refine g_callDS1 (n := 3) X [.int (nI t), .int (nI 0), .int (nI ((u 1 0) - 1))] (m_in ((nI t)) ((nI 0)) ((nI ((u 1 0) - 1)))) gX5_tray_X5_in rfl ⟨rfl, rfl⟩ (by decide +kernel) ⟨by decide, by decide⟩ rfl (Nat.le_of_ble_eq_true rfl) dX5_tray_9 ⟨Nat.zero_le _, Nat.zero_le _⟩ _ rfl ?_
  refine g_if_eq X 19 dX5_tray_12 (by decide) (bN_eq0) (fun c_1 => ?_) (fun c_1 => ?_)
  · exact absurd (inB_nI (by omega) (by omega) (by omega)) c_1
  · have c_1 := Decidable.of_not_not c_1
    refine g_iconst X (v := nI 0) dX5_tray_15 (by decide) ?_
    refine g_goto X 20 dX5_tray_16 (by decide) ?_
    refine g_put X tyX5 tyX5_ok nmX5 10 0 cm10 rfl 0 (by decide) hiX5 (by decide +kernel) rfl rfl (ty := .int) (by decide +kernel) rfl rfl (Nat.le_of_ble_eq_true rfl) _ um_thrown dX5_tray_20 ?_
    generalize hu_2 : st u 0 0 0 = u_2
    have k1u_2 : u_2 1 0 = u 1 0 := by rw [← hu_2]; first | rfl | exact st_nf (by omega)
    refine g_aload_n X 0 dX5_tray_23 rfl rfl ?_
    refine g_get X 10 0 cm10 rfl 0 (by decide) hiX5 (by decide +kernel) rfl rfl dX5_tray_24 ?_
    have kt9 : u_2 0 0 = 0 := by rw [← hu_2]; rfl
    refine g_if_le X 34 dX5_tray_27 (by decide) (n0_le (by omega)) (fun c_3 => ?_) (fun c_3 => ?_)
    · refine g_aload_n X 0 dX5_tray_34 rfl rfl ?_
      refine g_iload_n X 1 dX5_tray_35 rfl rfl ?_
      refine g_callDV1 (n := 1) X 10 0 [.int (nI t)] cm10 rfl (m_itemOn t (by omega) (by omega)) gX5_tray_X5_itemOn rfl ⟨rfl, rfl⟩ (by decide +kernel) ⟨by decide, by decide⟩ rfl (Nat.le_of_ble_eq_true rfl) dX5_tray_36 ⟨Nat.zero_le _, Nat.zero_le _⟩ _ rfl ?_
      exact g_iret X rfl dX5_tray_39 ⟨by subst hu_2; rfl, rfl, by subst hu_2; rfl⟩
    · exact absurd (by omega) c_3

set_option maxRecDepth 100000 in
set_option maxHeartbeats 4000000 in
/-- tray -/
theorem m_tray_t {l : Launch} {D : va_G} {ta : Nat → ClassId} {pl : Nat → Nat} {bs : Nat} {al : Ad} {Z : Wo} {u : St} (y : Int32) (h1 : 1 ≤ u 1 0) (h2 : u 1 0 ≤ 200) (hy : ¬ inB y 0 (u 1 0 - 1)) : GD l D ta pl bs yX5_tray wsX5_tray (rmF 1 22) [.ref (al 10 0), .int y] al (mM Z ta al u) (some (.int (nI 0))) (mM Z ta al (st u 0 0 1)) := by
  refine GM.of (by decide) rfl (Nat.le_of_ble_eq_true rfl) ?_
  intro p e s m args below meth c X hnm
  have hiX5 : ∀ w ∈ u_ws RX5 TX5 22, w ∈ wsX5_tray := by decide +kernel
  refine g_lv (lv' := [(0, .ref (al 10 0)), (1, .int y)]) [0, 1] rfl ?_
  refine g_aload_n X 0 dX5_tray_0 rfl rfl ?_
  refine g_iload_n X 1 dX5_tray_1 rfl rfl ?_
  refine g_iconst X (v := nI 0) dX5_tray_2 (by decide) ?_
  refine g_aload_n X 0 dX5_tray_3 rfl rfl ?_
  refine g_get X 10 0 cm10 rfl 1 (by decide) hiX5 (by decide +kernel) rfl rfl dX5_tray_4 ?_
  refine g_iconst X (v := nI 1) dX5_tray_7 (by decide) ?_
  refine g_isub X dX5_tray_8 (pk_sub (by omega)) ?_
  refine g_callDS1 (n := 3) X [.int y, .int (nI 0), .int (nI ((u 1 0) - 1))] (m_in y ((nI 0)) ((nI ((u 1 0) - 1)))) gX5_tray_X5_in rfl ⟨rfl, rfl⟩ (by decide +kernel) ⟨by decide, by decide⟩ rfl (Nat.le_of_ble_eq_true rfl) dX5_tray_9 ⟨Nat.zero_le _, Nat.zero_le _⟩ _ rfl ?_
  refine g_if_eq X 19 dX5_tray_12 (by decide) (bN_eq0) (fun c_1 => ?_) (fun c_1 => ?_)
  · refine g_iconst X (v := nI 1) dX5_tray_19 (by decide) ?_
    refine g_put X tyX5 tyX5_ok nmX5 10 0 cm10 rfl 0 (by decide) hiX5 (by decide +kernel) rfl rfl (ty := .int) (by decide +kernel) rfl rfl (Nat.le_of_ble_eq_true rfl) _ um_thrown dX5_tray_20 ?_
    generalize hu_2 : st u 0 0 1 = u_2
    have k1u_2 : u_2 1 0 = u 1 0 := by rw [← hu_2]; first | rfl | exact st_nf (by omega)
    refine g_aload_n X 0 dX5_tray_23 rfl rfl ?_
    refine g_get X 10 0 cm10 rfl 0 (by decide) hiX5 (by decide +kernel) rfl rfl dX5_tray_24 ?_
    have kt9 : u_2 0 0 = 1 := by rw [← hu_2]; rfl
    refine g_if_le X 34 dX5_tray_27 (by decide) (n0_le (by omega)) (fun c_3 => ?_) (fun c_3 => ?_)
    · exact absurd c_3 (by omega)
    · refine g_iconst X (v := nI 0) dX5_tray_30 (by decide) ?_
      refine g_goto X 39 dX5_tray_31 (by decide) ?_
      exact g_iret X rfl dX5_tray_39 ⟨rfl, rfl, by subst hu_2; rfl⟩
  · have c_1 := Decidable.of_not_not c_1
    exact absurd c_1 hy

set_option maxRecDepth 100000 in
set_option maxHeartbeats 4000000 in
/-- full -/
theorem m_full_u {l : Launch} {D : va_G} {ta : Nat → ClassId} {pl : Nat → Nat} {bs : Nat} {al : Ad} {Z : Wo} {u : St} (x y : Int32) (h : ¬ inB x 0 15) : GD l D ta pl bs yX5_full wsX5_full (rmF 1 22) [.ref (al 10 0), .int x, .int y] al (mM Z ta al u) (some (.int (-11))) (mM Z ta al (st u 0 0 0)) := by
  refine GM.of (by decide) rfl (Nat.le_of_ble_eq_true rfl) ?_
  intro p e s m args below meth c X hnm
  have hiX5 : ∀ w ∈ u_ws RX5 TX5 22, w ∈ wsX5_full := by decide +kernel
  refine g_lv (lv' := [(0, .ref (al 10 0)), (1, .int x), (2, .int y)]) [0, 1, 2] rfl ?_
  refine g_aload_n X 0 dX5_full_0 rfl rfl ?_
  refine g_iconst X (v := nI 0) dX5_full_1 (by decide) ?_
  refine g_put X tyX5 tyX5_ok nmX5 10 0 cm10 rfl 0 (by decide) hiX5 (by decide +kernel) rfl rfl (ty := .int) (by decide +kernel) rfl rfl (Nat.le_of_ble_eq_true rfl) _ um_thrown dX5_full_2 ?_
  generalize hu_1 : st u 0 0 0 = u_1
  have k1u_1 : u_1 1 0 = u 1 0 := by rw [← hu_1]; first | rfl | exact st_nf (by omega)
  have k5u_1 : u_1 5 0 = u 5 0 := by rw [← hu_1]; first | rfl | exact st_nf (by omega)
  refine g_iload_n X 1 dX5_full_5 rfl rfl ?_
  refine g_iconst X (v := nI 0) dX5_full_6 (by decide) ?_
  refine g_bipush X (v := nI 15) dX5_full_7 (by decide) ?_
  refine g_callDS1 (n := 3) X [.int x, .int (nI 0), .int (nI 15)] (m_in x ((nI 0)) ((nI 15))) gX5_full_X5_in rfl ⟨rfl, rfl⟩ (by decide +kernel) ⟨by decide, by decide⟩ rfl (Nat.le_of_ble_eq_true rfl) dX5_full_9 ⟨Nat.zero_le _, Nat.zero_le _⟩ _ rfl ?_
  refine g_if_ne X 18 dX5_full_12 (by decide) (bN_eq0) (fun c_2 => ?_) (fun c_2 => ?_)
  · have c_2 := Decidable.of_not_not c_2
    exact absurd c_2 h
  · refine g_bipush X (v := -11) dX5_full_15 (by decide) ?_
    exact g_iret X rfl dX5_full_17 ⟨rfl, rfl, by subst hu_1; rfl⟩

set_option maxRecDepth 100000 in
set_option maxHeartbeats 4000000 in
/-- full -/
theorem m_full_s {l : Launch} {D : va_G} {ta : Nat → ClassId} {pl : Nat → Nat} {bs : Nat} {al : Ad} {Z : Wo} {u : St}   : GD l D ta pl bs yX5_full wsX5_full (rmF 1 22) [.ref (al 10 0), .int (nI 15), .int (nI 1)] al (mM Z ta al u) (some (.int (-13))) (mM Z ta al (st u 0 0 0)) := by
  refine GM.of (by decide) rfl (Nat.le_of_ble_eq_true rfl) ?_
  intro p e s m args below meth c X hnm
  have hiX5 : ∀ w ∈ u_ws RX5 TX5 22, w ∈ wsX5_full := by decide +kernel
  refine g_lv (lv' := [(0, .ref (al 10 0)), (1, .int (nI 15)), (2, .int (nI 1))]) [0, 1, 2] rfl ?_
  refine g_aload_n X 0 dX5_full_0 rfl rfl ?_
  refine g_iconst X (v := nI 0) dX5_full_1 (by decide) ?_
  refine g_put X tyX5 tyX5_ok nmX5 10 0 cm10 rfl 0 (by decide) hiX5 (by decide +kernel) rfl rfl (ty := .int) (by decide +kernel) rfl rfl (Nat.le_of_ble_eq_true rfl) _ um_thrown dX5_full_2 ?_
  generalize hu_1 : st u 0 0 0 = u_1
  have k1u_1 : u_1 1 0 = u 1 0 := by rw [← hu_1]; first | rfl | exact st_nf (by omega)
  have k5u_1 : u_1 5 0 = u 5 0 := by rw [← hu_1]; first | rfl | exact st_nf (by omega)
  refine g_iload_n X 1 dX5_full_5 rfl rfl ?_
  refine g_iconst X (v := nI 0) dX5_full_6 (by decide) ?_
  refine g_bipush X (v := nI 15) dX5_full_7 (by decide) ?_
  refine g_callDS1 (n := 3) X [.int (nI 15), .int (nI 0), .int (nI 15)] (m_in ((nI 15)) ((nI 0)) ((nI 15))) gX5_full_X5_in rfl ⟨rfl, rfl⟩ (by decide +kernel) ⟨by decide, by decide⟩ rfl (Nat.le_of_ble_eq_true rfl) dX5_full_9 ⟨Nat.zero_le _, Nat.zero_le _⟩ _ rfl ?_
  refine g_if_ne X 18 dX5_full_12 (by decide) (bN_eq0) (fun c_2 => ?_) (fun c_2 => ?_)
  · have c_2 := Decidable.of_not_not c_2
    refine g_iload_n X 2 dX5_full_18 rfl rfl ?_
    refine g_if_eq X 31 dX5_full_19 (by decide) (n0_eq (by omega)) (fun c_3 => ?_) (fun c_3 => ?_)
    · exact absurd c_3 (by decide)
    · refine g_iload_n X 1 dX5_full_22 rfl rfl ?_
      refine g_bipush X (v := nI 15) dX5_full_23 (by decide) ?_
      refine g_icmp_ne X 31 dX5_full_25 (by decide) (nI_eq (by omega) (by omega)) (fun c_4 => ?_) (fun c_4 => ?_)
      · exact absurd c_4 (by decide)
      · refine g_bipush X (v := -13) dX5_full_28 (by decide) ?_
        exact g_iret X rfl dX5_full_30 ⟨rfl, rfl, by subst hu_1; rfl⟩
  · exact absurd (inB_nI (by decide) (by decide) (by decide)) c_2

set_option maxRecDepth 100000 in
set_option maxHeartbeats 4000000 in
/-- full -/
theorem m_full_1 {l : Launch} {D : va_G} {ta : Nat → ClassId} {pl : Nat → Nat} {bs : Nat} {al : Ad} {Z : Wo} {u : St} (c0 : Nat) (h : c0 < 15) : GD l D ta pl bs yX5_full wsX5_full (rmF 1 22) [.ref (al 10 0), .int (nI c0), .int (nI 1)] al (mM Z ta al u) (some (.int (nI (u 20 c0)))) (mM Z ta al (st (st (st u 0 0 0) 21 c0 1) 20 c0 (st u 0 0 0 20 c0))) := by
  refine GM.of (by decide) rfl (Nat.le_of_ble_eq_true rfl) ?_
  intro p e s m args below meth c X hnm
  have hiX5 : ∀ w ∈ u_ws RX5 TX5 22, w ∈ wsX5_full := by decide +kernel
  refine g_lv (lv' := [(0, .ref (al 10 0)), (1, .int (nI c0)), (2, .int (nI 1))]) [0, 1, 2] rfl ?_
  refine g_aload_n X 0 dX5_full_0 rfl rfl ?_
  refine g_iconst X (v := nI 0) dX5_full_1 (by decide) ?_
  refine g_put X tyX5 tyX5_ok nmX5 10 0 cm10 rfl 0 (by decide) hiX5 (by decide +kernel) rfl rfl (ty := .int) (by decide +kernel) rfl rfl (Nat.le_of_ble_eq_true rfl) _ um_thrown dX5_full_2 ?_
  generalize hu_1 : st u 0 0 0 = u_1
  have k20u_1 : u_1 20 c0 = u 20 c0 := by rw [← hu_1]; first | rfl | exact st_nf (by omega)
  refine g_iload_n X 1 dX5_full_5 rfl rfl ?_
  refine g_iconst X (v := nI 0) dX5_full_6 (by decide) ?_
  refine g_bipush X (v := nI 15) dX5_full_7 (by decide) ?_
  refine g_callDS1 (n := 3) X [.int (nI c0), .int (nI 0), .int (nI 15)] (m_in ((nI c0)) ((nI 0)) ((nI 15))) gX5_full_X5_in rfl ⟨rfl, rfl⟩ (by decide +kernel) ⟨by decide, by decide⟩ rfl (Nat.le_of_ble_eq_true rfl) dX5_full_9 ⟨Nat.zero_le _, Nat.zero_le _⟩ _ rfl ?_
  refine g_if_ne X 18 dX5_full_12 (by decide) (bN_eq0) (fun c_2 => ?_) (fun c_2 => ?_)
  · have c_2 := Decidable.of_not_not c_2
    refine g_iload_n X 2 dX5_full_18 rfl rfl ?_
    refine g_if_eq X 31 dX5_full_19 (by decide) (n0_eq (by omega)) (fun c_3 => ?_) (fun c_3 => ?_)
    · exact absurd c_3 (by decide)
    · refine g_iload_n X 1 dX5_full_22 rfl rfl ?_
      refine g_bipush X (v := nI 15) dX5_full_23 (by decide) ?_
      refine g_icmp_ne X 31 dX5_full_25 (by decide) (nI_eq (by omega) (by omega)) (fun c_4 => ?_) (fun c_4 => ?_)
      · refine g_aload_n X 0 dX5_full_31 rfl rfl ?_
        refine g_get X 10 0 cm10 rfl 15 (by decide) hiX5 (by decide +kernel) rfl rfl dX5_full_32 ?_
        refine g_iload_n X 1 dX5_full_35 rfl rfl ?_
        refine g_iald X 20 0 cm20 c0 (by omega) (by decide) rfl dX5_full_36 ?_
        refine g_istore_n X [(3, .int (nI (u_1 20 c0))), (0, .ref (al 10 0)), (1, .int (nI c0)), (2, .int (nI 1))] dX5_full_37 rfl (by decide) rfl ?_
        refine g_aload_n X 1 dX5_full_38 rfl rfl ?_
        refine g_get X 10 0 cm10 rfl 16 (by decide) hiX5 (by decide +kernel) rfl rfl dX5_full_39 ?_
        refine g_iload_n X 2 dX5_full_42 rfl rfl ?_
        refine g_iload_n X 3 dX5_full_43 rfl rfl ?_
        refine g_zast X 21 0 cm21 c0 (by omega) (by decide) (by decide) _ um_a21 dX5_full_44 ?_
        generalize hu_5 : st u_1 21 c0 1 = u_5
        have k20u_5 : u_5 20 c0 = u_1 20 c0 := by rw [← hu_5]; first | rfl | exact st_nf (by omega)
        refine g_aload_n X 1 dX5_full_45 rfl rfl ?_
        refine g_get X 10 0 cm10 rfl 15 (by decide) hiX5 (by decide +kernel) rfl rfl dX5_full_46 ?_
        refine g_iload_n X 2 dX5_full_49 rfl rfl ?_
        refine g_iload_n X 3 dX5_full_50 rfl rfl ?_
        refine g_if_eq X 58 dX5_full_51 (by decide) (n0_eq (by omega)) (fun c_6 => ?_) (fun c_6 => ?_)
        · exact absurd c_6 (by decide)
        · refine g_iload_n X 0 dX5_full_54 rfl rfl ?_
          refine g_goto X 59 dX5_full_55 (by decide) ?_
          refine g_iast X 20 0 cm20 c0 (by omega) (by decide) _ um_a20 dX5_full_59 ?_
          generalize hu_7 : st u_5 20 c0 (u_1 20 c0) = u_7
          refine g_iload_n X 0 dX5_full_60 rfl rfl ?_
          exact g_iret X rfl dX5_full_61 ⟨by rw [k20u_1], rfl, by subst hu_7; subst hu_5; subst hu_1; rfl⟩
      · exact absurd c_4 (by omega)
  · exact absurd (inB_nI (by omega) (by omega) (by decide)) c_2

set_option maxRecDepth 100000 in
set_option maxHeartbeats 4000000 in
/-- full -/
theorem m_full_0 {l : Launch} {D : va_G} {ta : Nat → ClassId} {pl : Nat → Nat} {bs : Nat} {al : Ad} {Z : Wo} {u : St} (c0 : Nat) (h : c0 < 16) : GD l D ta pl bs yX5_full wsX5_full (rmF 1 22) [.ref (al 10 0), .int (nI c0), .int (nI 0)] al (mM Z ta al u) (some (.int (nI (u 20 c0)))) (mM Z ta al (st (st (st u 0 0 0) 21 c0 0) 20 c0 0)) := by
  refine GM.of (by decide) rfl (Nat.le_of_ble_eq_true rfl) ?_
  intro p e s m args below meth c X hnm
  have hiX5 : ∀ w ∈ u_ws RX5 TX5 22, w ∈ wsX5_full := by decide +kernel
  refine g_lv (lv' := [(0, .ref (al 10 0)), (1, .int (nI c0)), (2, .int (nI 0))]) [0, 1, 2] rfl ?_
  refine g_aload_n X 0 dX5_full_0 rfl rfl ?_
  refine g_iconst X (v := nI 0) dX5_full_1 (by decide) ?_
  refine g_put X tyX5 tyX5_ok nmX5 10 0 cm10 rfl 0 (by decide) hiX5 (by decide +kernel) rfl rfl (ty := .int) (by decide +kernel) rfl rfl (Nat.le_of_ble_eq_true rfl) _ um_thrown dX5_full_2 ?_
  generalize hu_1 : st u 0 0 0 = u_1
  have k20u_1 : u_1 20 c0 = u 20 c0 := by rw [← hu_1]; first | rfl | exact st_nf (by omega)
  refine g_iload_n X 1 dX5_full_5 rfl rfl ?_
  refine g_iconst X (v := nI 0) dX5_full_6 (by decide) ?_
  refine g_bipush X (v := nI 15) dX5_full_7 (by decide) ?_
  refine g_callDS1 (n := 3) X [.int (nI c0), .int (nI 0), .int (nI 15)] (m_in ((nI c0)) ((nI 0)) ((nI 15))) gX5_full_X5_in rfl ⟨rfl, rfl⟩ (by decide +kernel) ⟨by decide, by decide⟩ rfl (Nat.le_of_ble_eq_true rfl) dX5_full_9 ⟨Nat.zero_le _, Nat.zero_le _⟩ _ rfl ?_
  refine g_if_ne X 18 dX5_full_12 (by decide) (bN_eq0) (fun c_2 => ?_) (fun c_2 => ?_)
  · have c_2 := Decidable.of_not_not c_2
    refine g_iload_n X 2 dX5_full_18 rfl rfl ?_
    refine g_if_eq X 31 dX5_full_19 (by decide) (n0_eq (by omega)) (fun c_3 => ?_) (fun c_3 => ?_)
    · refine g_aload_n X 0 dX5_full_31 rfl rfl ?_
      refine g_get X 10 0 cm10 rfl 15 (by decide) hiX5 (by decide +kernel) rfl rfl dX5_full_32 ?_
      refine g_iload_n X 1 dX5_full_35 rfl rfl ?_
      refine g_iald X 20 0 cm20 c0 (by omega) (by decide) rfl dX5_full_36 ?_
      refine g_istore_n X [(3, .int (nI (u_1 20 c0))), (0, .ref (al 10 0)), (1, .int (nI c0)), (2, .int (nI 0))] dX5_full_37 rfl (by decide) rfl ?_
      refine g_aload_n X 1 dX5_full_38 rfl rfl ?_
      refine g_get X 10 0 cm10 rfl 16 (by decide) hiX5 (by decide +kernel) rfl rfl dX5_full_39 ?_
      refine g_iload_n X 2 dX5_full_42 rfl rfl ?_
      refine g_iload_n X 3 dX5_full_43 rfl rfl ?_
      refine g_zast X 21 0 cm21 c0 (by omega) (by decide) (by decide) _ um_a21 dX5_full_44 ?_
      generalize hu_4 : st u_1 21 c0 0 = u_4
      have k20u_4 : u_4 20 c0 = u_1 20 c0 := by rw [← hu_4]; first | rfl | exact st_nf (by omega)
      refine g_aload_n X 1 dX5_full_45 rfl rfl ?_
      refine g_get X 10 0 cm10 rfl 15 (by decide) hiX5 (by decide +kernel) rfl rfl dX5_full_46 ?_
      refine g_iload_n X 2 dX5_full_49 rfl rfl ?_
      refine g_iload_n X 3 dX5_full_50 rfl rfl ?_
      refine g_if_eq X 58 dX5_full_51 (by decide) (n0_eq (by omega)) (fun c_5 => ?_) (fun c_5 => ?_)
      · refine g_iconst X (v := nI 0) dX5_full_58 (by decide) ?_
        refine g_iast X 20 0 cm20 c0 (by omega) (by decide) _ um_a20 dX5_full_59 ?_
        generalize hu_6 : st u_4 20 c0 0 = u_6
        refine g_iload_n X 0 dX5_full_60 rfl rfl ?_
        exact g_iret X rfl dX5_full_61 ⟨by rw [k20u_1], rfl, by subst hu_6; subst hu_4; subst hu_1; rfl⟩
      · exact absurd c_5 (by decide)
    · exact absurd c_3 (by decide)
  · exact absurd (inB_nI (by omega) (by omega) (by decide)) c_2

set_option maxRecDepth 100000 in
set_option maxHeartbeats 4000000 in
/-- step -/
theorem m_step_u {l : Launch} {D : va_G} {ta : Nat → ClassId} {pl : Nat → Nat} {bs : Nat} {al : Ad} {Z : Wo} {u : St} (x : Int32) (h : ¬ inB x 0 1000) : GD l D ta pl bs yX5_step wsX5_step (rmF 1 22) [.ref (al 10 0), .int x] al (mM Z ta al u) (some (.int (-12))) (mM Z ta al (st u 0 0 0)) := by
  refine GM.of (by decide) rfl (Nat.le_of_ble_eq_true rfl) ?_
  intro p e s m args below meth c X hnm
  have hiX5 : ∀ w ∈ u_ws RX5 TX5 22, w ∈ wsX5_step := by decide +kernel
  refine g_lv (lv' := [(0, .ref (al 10 0)), (1, .int x)]) [0, 1] rfl ?_
  refine g_aload_n X 0 dX5_step_0 rfl rfl ?_
  refine g_iconst X (v := nI 0) dX5_step_1 (by decide) ?_
  refine g_put X tyX5 tyX5_ok nmX5 10 0 cm10 rfl 0 (by decide) hiX5 (by decide +kernel) rfl rfl (ty := .int) (by decide +kernel) rfl rfl (Nat.le_of_ble_eq_true rfl) _ um_thrown dX5_step_2 ?_
  generalize hu_1 : st u 0 0 0 = u_1
  have k1u_1 : u_1 1 0 = u 1 0 := by rw [← hu_1]; first | rfl | exact st_nf (by omega)
  have k5u_1 : u_1 5 0 = u 5 0 := by rw [← hu_1]; first | rfl | exact st_nf (by omega)
  refine g_iload_n X 1 dX5_step_5 rfl rfl ?_
  refine g_iconst X (v := nI 0) dX5_step_6 (by decide) ?_
  refine g_sipush X (v := nI 1000) dX5_step_7 (by decide) ?_
  refine g_callDS1 (n := 3) X [.int x, .int (nI 0), .int (nI 1000)] (m_in x ((nI 0)) ((nI 1000))) gX5_step_X5_in rfl ⟨rfl, rfl⟩ (by decide +kernel) ⟨by decide, by decide⟩ rfl (Nat.le_of_ble_eq_true rfl) dX5_step_10 ⟨Nat.zero_le _, Nat.zero_le _⟩ _ rfl ?_
  refine g_if_ne X 19 dX5_step_13 (by decide) (bN_eq0) (fun c_2 => ?_) (fun c_2 => ?_)
  · have c_2 := Decidable.of_not_not c_2
    exact absurd c_2 h
  · refine g_bipush X (v := -12) dX5_step_16 (by decide) ?_
    exact g_iret X rfl dX5_step_18 ⟨rfl, rfl, by subst hu_1; rfl⟩

set_option maxRecDepth 100000 in
set_option maxHeartbeats 4000000 in
/-- out -/
theorem m_out_u {l : Launch} {D : va_G} {ta : Nat → ClassId} {pl : Nat → Nat} {bs : Nat} {al : Ad} {Z : Wo} {u : St} (x y : Int32) (h : x < 0 ∨ ¬ x < nI (u 6 0)) : GD l D ta pl bs yX5_out wsX5_out (rmF 0 0) [.ref (al 10 0), .int x, .int y] al (mM Z ta al u) (some (.int (-11))) (mM Z ta al (st u 0 0 0)) := by
  refine GM.of (by decide) rfl (Nat.le_of_ble_eq_true rfl) ?_
  intro p e s m args below meth c X hnm
  have hiX5 : ∀ w ∈ u_ws RX5 TX5 22, w ∈ wsX5_out := by decide +kernel
  refine g_lv (lv' := [(0, .ref (al 10 0)), (1, .int x), (2, .int y)]) [0, 1, 2] rfl ?_
  refine g_aload_n X 0 dX5_out_0 rfl rfl ?_
  refine g_iconst X (v := nI 0) dX5_out_1 (by decide) ?_
  refine g_put X tyX5 tyX5_ok nmX5 10 0 cm10 rfl 0 (by decide) hiX5 (by decide +kernel) rfl rfl (ty := .int) (by decide +kernel) rfl rfl (Nat.le_of_ble_eq_true rfl) _ um_thrown dX5_out_2 ?_
  generalize hu_1 : st u 0 0 0 = u_1
  have k6u_1 : u_1 6 0 = u 6 0 := by rw [← hu_1]; first | rfl | exact st_nf (by omega)
  refine g_iload_n X 1 dX5_out_5 rfl rfl ?_
  refine g_if_lt X 17 dX5_out_6 (by decide) (Iff.rfl) (fun c_2 => ?_) (fun c_2 => ?_)
  · refine g_bipush X (v := -11) dX5_out_17 (by decide) ?_
    exact g_iret X rfl dX5_out_19 ⟨rfl, rfl, by subst hu_1; rfl⟩
  · refine g_iload_n X 1 dX5_out_9 rfl rfl ?_
    refine g_aload_n X 0 dX5_out_10 rfl rfl ?_
    refine g_get X 10 0 cm10 rfl 17 (by decide) hiX5 (by decide +kernel) rfl rfl dX5_out_11 ?_
    refine g_icmp_lt X 20 dX5_out_14 (by decide) (Iff.rfl) (fun c_3 => ?_) (fun c_3 => ?_)
    · rw [k6u_1] at c_3
      exact h.elim (fun z => absurd z c_2) (fun z => absurd c_3 z)
    · refine g_bipush X (v := -11) dX5_out_17 (by decide) ?_
      exact g_iret X rfl dX5_out_19 ⟨rfl, rfl, by subst hu_1; rfl⟩

set_option maxRecDepth 100000 in
set_option maxHeartbeats 4000000 in
/-- out -/
theorem m_out_0 {l : Launch} {D : va_G} {ta : Nat → ClassId} {pl : Nat → Nat} {bs : Nat} {al : Ad} {Z : Wo} {u : St} (j : Nat) (h : j < u 6 0) (h6 : u 6 0 ≤ 400) (hg : u 22 j ≤ 400) : GD l D ta pl bs yX5_out wsX5_out (rmF 1 22) [.ref (al 10 0), .int (nI j), .int (nI 0)] al (mM Z ta al u) (some (.int (nI (u 22 j)))) (mM Z ta al (st u 0 0 0)) := by
  refine GM.of (by decide) rfl (Nat.le_of_ble_eq_true rfl) ?_
  intro p e s m args below meth c X hnm
  have hiX5 : ∀ w ∈ u_ws RX5 TX5 22, w ∈ wsX5_out := by decide +kernel
  refine g_lv (lv' := [(0, .ref (al 10 0)), (1, .int (nI j)), (2, .int (nI 0))]) [0, 1, 2] rfl ?_
  refine g_aload_n X 0 dX5_out_0 rfl rfl ?_
  refine g_iconst X (v := nI 0) dX5_out_1 (by decide) ?_
  refine g_put X tyX5 tyX5_ok nmX5 10 0 cm10 rfl 0 (by decide) hiX5 (by decide +kernel) rfl rfl (ty := .int) (by decide +kernel) rfl rfl (Nat.le_of_ble_eq_true rfl) _ um_thrown dX5_out_2 ?_
  generalize hu_1 : st u 0 0 0 = u_1
  have k6u_1 : u_1 6 0 = u 6 0 := by rw [← hu_1]; first | rfl | exact st_nf (by omega)
  have k22u_1 : u_1 22 j = u 22 j := by rw [← hu_1]; first | rfl | exact st_nf (by omega)
  have k23u_1 : u_1 23 j = u 23 j := by rw [← hu_1]; first | rfl | exact st_nf (by omega)
  have k24u_1 : u_1 24 j = u 24 j := by rw [← hu_1]; first | rfl | exact st_nf (by omega)
  have k5u_1 : u_1 5 0 = u 5 0 := by rw [← hu_1]; first | rfl | exact st_nf (by omega)
  refine g_iload_n X 1 dX5_out_5 rfl rfl ?_
  refine g_if_lt X 17 dX5_out_6 (by decide) (n0_lt (by omega)) (fun c_2 => ?_) (fun c_2 => ?_)
  · exact absurd c_2 (fun z => z)
  · refine g_iload_n X 1 dX5_out_9 rfl rfl ?_
    refine g_aload_n X 0 dX5_out_10 rfl rfl ?_
    refine g_get X 10 0 cm10 rfl 17 (by decide) hiX5 (by decide +kernel) rfl rfl dX5_out_11 ?_
    refine g_icmp_lt X 20 dX5_out_14 (by decide) (nI_ltI (by omega) (by omega)) (fun c_3 => ?_) (fun c_3 => ?_)
    · refine g_iload_n X 2 dX5_out_20 rfl rfl ?_
      refine g_iconst X (v := nI 0) dX5_out_21 (by decide) ?_
      refine g_iconst X (v := nI 3) dX5_out_22 (by decide) ?_
      refine g_callDS1 (n := 3) X [.int (nI 0), .int (nI 0), .int (nI 3)] (m_in ((nI 0)) ((nI 0)) ((nI 3))) gX5_out_X5_in rfl ⟨rfl, rfl⟩ (by decide +kernel) ⟨by decide, by decide⟩ rfl (Nat.le_of_ble_eq_true rfl) dX5_out_23 ⟨Nat.zero_le _, Nat.zero_le _⟩ _ rfl ?_
      refine g_if_ne X 32 dX5_out_26 (by decide) (bN_eq0) (fun c_4 => ?_) (fun c_4 => ?_)
      · have c_4 := Decidable.of_not_not c_4
        refine g_iload_n X 2 dX5_out_32 rfl rfl ?_
        refine g_if_ne X 45 dX5_out_33 (by decide) (n0_eq (by omega)) (fun c_5 => ?_) (fun c_5 => ?_)
        · exact absurd c_5 (by decide)
        · refine g_aload_n X 0 dX5_out_36 rfl rfl ?_
          refine g_get X 10 0 cm10 rfl 18 (by decide) hiX5 (by decide +kernel) rfl rfl dX5_out_37 ?_
          refine g_iload_n X 1 dX5_out_40 rfl rfl ?_
          refine g_iald X 22 0 cm22 j (by omega) (by decide) rfl dX5_out_41 ?_
          refine g_goto X 84 dX5_out_42 (by decide) ?_
          exact g_iret X rfl dX5_out_84 ⟨by rw [k22u_1], rfl, by subst hu_1; rfl⟩
      · exact absurd (inB_nI (by decide) (by decide) (by decide)) c_4
    · exact absurd c_3 (by omega)

set_option maxRecDepth 100000 in
set_option maxHeartbeats 4000000 in
/-- out -/
theorem m_out_1 {l : Launch} {D : va_G} {ta : Nat → ClassId} {pl : Nat → Nat} {bs : Nat} {al : Ad} {Z : Wo} {u : St} (j : Nat) (h : j < u 6 0) (h6 : u 6 0 ≤ 400) (hg : u 22 j ≤ 400) : GD l D ta pl bs yX5_out wsX5_out (rmF 1 22) [.ref (al 10 0), .int (nI j), .int (nI 1)] al (mM Z ta al u) (some (.int (nI (u 23 j)))) (mM Z ta al (st u 0 0 0)) := by
  refine GM.of (by decide) rfl (Nat.le_of_ble_eq_true rfl) ?_
  intro p e s m args below meth c X hnm
  have hiX5 : ∀ w ∈ u_ws RX5 TX5 22, w ∈ wsX5_out := by decide +kernel
  refine g_lv (lv' := [(0, .ref (al 10 0)), (1, .int (nI j)), (2, .int (nI 1))]) [0, 1, 2] rfl ?_
  refine g_aload_n X 0 dX5_out_0 rfl rfl ?_
  refine g_iconst X (v := nI 0) dX5_out_1 (by decide) ?_
  refine g_put X tyX5 tyX5_ok nmX5 10 0 cm10 rfl 0 (by decide) hiX5 (by decide +kernel) rfl rfl (ty := .int) (by decide +kernel) rfl rfl (Nat.le_of_ble_eq_true rfl) _ um_thrown dX5_out_2 ?_
  generalize hu_1 : st u 0 0 0 = u_1
  have k6u_1 : u_1 6 0 = u 6 0 := by rw [← hu_1]; first | rfl | exact st_nf (by omega)
  have k22u_1 : u_1 22 j = u 22 j := by rw [← hu_1]; first | rfl | exact st_nf (by omega)
  have k23u_1 : u_1 23 j = u 23 j := by rw [← hu_1]; first | rfl | exact st_nf (by omega)
  have k24u_1 : u_1 24 j = u 24 j := by rw [← hu_1]; first | rfl | exact st_nf (by omega)
  have k5u_1 : u_1 5 0 = u 5 0 := by rw [← hu_1]; first | rfl | exact st_nf (by omega)
  refine g_iload_n X 1 dX5_out_5 rfl rfl ?_
  refine g_if_lt X 17 dX5_out_6 (by decide) (n0_lt (by omega)) (fun c_2 => ?_) (fun c_2 => ?_)
  · exact absurd c_2 (fun z => z)
  · refine g_iload_n X 1 dX5_out_9 rfl rfl ?_
    refine g_aload_n X 0 dX5_out_10 rfl rfl ?_
    refine g_get X 10 0 cm10 rfl 17 (by decide) hiX5 (by decide +kernel) rfl rfl dX5_out_11 ?_
    refine g_icmp_lt X 20 dX5_out_14 (by decide) (nI_ltI (by omega) (by omega)) (fun c_3 => ?_) (fun c_3 => ?_)
    · refine g_iload_n X 2 dX5_out_20 rfl rfl ?_
      refine g_iconst X (v := nI 0) dX5_out_21 (by decide) ?_
      refine g_iconst X (v := nI 3) dX5_out_22 (by decide) ?_
      refine g_callDS1 (n := 3) X [.int (nI 1), .int (nI 0), .int (nI 3)] (m_in ((nI 1)) ((nI 0)) ((nI 3))) gX5_out_X5_in rfl ⟨rfl, rfl⟩ (by decide +kernel) ⟨by decide, by decide⟩ rfl (Nat.le_of_ble_eq_true rfl) dX5_out_23 ⟨Nat.zero_le _, Nat.zero_le _⟩ _ rfl ?_
      refine g_if_ne X 32 dX5_out_26 (by decide) (bN_eq0) (fun c_4 => ?_) (fun c_4 => ?_)
      · have c_4 := Decidable.of_not_not c_4
        refine g_iload_n X 2 dX5_out_32 rfl rfl ?_
        refine g_if_ne X 45 dX5_out_33 (by decide) (n0_eq (by omega)) (fun c_5 => ?_) (fun c_5 => ?_)
        · refine g_iload_n X 2 dX5_out_45 rfl rfl ?_
          refine g_iconst X (v := nI 1) dX5_out_46 (by decide) ?_
          refine g_icmp_ne X 59 dX5_out_47 (by decide) (nI_eq (by omega) (by omega)) (fun c_6 => ?_) (fun c_6 => ?_)
          · exact absurd c_6 (by decide)
          · refine g_aload_n X 0 dX5_out_50 rfl rfl ?_
            refine g_get X 10 0 cm10 rfl 19 (by decide) hiX5 (by decide +kernel) rfl rfl dX5_out_51 ?_
            refine g_iload_n X 1 dX5_out_54 rfl rfl ?_
            refine g_iald X 23 0 cm23 j (by omega) (by decide) rfl dX5_out_55 ?_
            refine g_goto X 84 dX5_out_56 (by decide) ?_
            exact g_iret X rfl dX5_out_84 ⟨by rw [k23u_1], rfl, by subst hu_1; rfl⟩
        · exact absurd c_5 (by decide)
      · exact absurd (inB_nI (by decide) (by decide) (by decide)) c_4
    · exact absurd c_3 (by omega)

set_option maxRecDepth 100000 in
set_option maxHeartbeats 4000000 in
/-- out -/
theorem m_out_2 {l : Launch} {D : va_G} {ta : Nat → ClassId} {pl : Nat → Nat} {bs : Nat} {al : Ad} {Z : Wo} {u : St} (j : Nat) (h : j < u 6 0) (h6 : u 6 0 ≤ 400) (hg : u 22 j ≤ 400) : GD l D ta pl bs yX5_out wsX5_out (rmF 1 22) [.ref (al 10 0), .int (nI j), .int (nI 2)] al (mM Z ta al u) (some (.int (nI (u 24 j)))) (mM Z ta al (st u 0 0 0)) := by
  refine GM.of (by decide) rfl (Nat.le_of_ble_eq_true rfl) ?_
  intro p e s m args below meth c X hnm
  have hiX5 : ∀ w ∈ u_ws RX5 TX5 22, w ∈ wsX5_out := by decide +kernel
  refine g_lv (lv' := [(0, .ref (al 10 0)), (1, .int (nI j)), (2, .int (nI 2))]) [0, 1, 2] rfl ?_
  refine g_aload_n X 0 dX5_out_0 rfl rfl ?_
  refine g_iconst X (v := nI 0) dX5_out_1 (by decide) ?_
  refine g_put X tyX5 tyX5_ok nmX5 10 0 cm10 rfl 0 (by decide) hiX5 (by decide +kernel) rfl rfl (ty := .int) (by decide +kernel) rfl rfl (Nat.le_of_ble_eq_true rfl) _ um_thrown dX5_out_2 ?_
  generalize hu_1 : st u 0 0 0 = u_1
  have k6u_1 : u_1 6 0 = u 6 0 := by rw [← hu_1]; first | rfl | exact st_nf (by omega)
  have k22u_1 : u_1 22 j = u 22 j := by rw [← hu_1]; first | rfl | exact st_nf (by omega)
  have k23u_1 : u_1 23 j = u 23 j := by rw [← hu_1]; first | rfl | exact st_nf (by omega)
  have k24u_1 : u_1 24 j = u 24 j := by rw [← hu_1]; first | rfl | exact st_nf (by omega)
  have k5u_1 : u_1 5 0 = u 5 0 := by rw [← hu_1]; first | rfl | exact st_nf (by omega)
  refine g_iload_n X 1 dX5_out_5 rfl rfl ?_
  refine g_if_lt X 17 dX5_out_6 (by decide) (n0_lt (by omega)) (fun c_2 => ?_) (fun c_2 => ?_)
  · exact absurd c_2 (fun z => z)
  · refine g_iload_n X 1 dX5_out_9 rfl rfl ?_
    refine g_aload_n X 0 dX5_out_10 rfl rfl ?_
    refine g_get X 10 0 cm10 rfl 17 (by decide) hiX5 (by decide +kernel) rfl rfl dX5_out_11 ?_
    refine g_icmp_lt X 20 dX5_out_14 (by decide) (nI_ltI (by omega) (by omega)) (fun c_3 => ?_) (fun c_3 => ?_)
    · refine g_iload_n X 2 dX5_out_20 rfl rfl ?_
      refine g_iconst X (v := nI 0) dX5_out_21 (by decide) ?_
      refine g_iconst X (v := nI 3) dX5_out_22 (by decide) ?_
      refine g_callDS1 (n := 3) X [.int (nI 2), .int (nI 0), .int (nI 3)] (m_in ((nI 2)) ((nI 0)) ((nI 3))) gX5_out_X5_in rfl ⟨rfl, rfl⟩ (by decide +kernel) ⟨by decide, by decide⟩ rfl (Nat.le_of_ble_eq_true rfl) dX5_out_23 ⟨Nat.zero_le _, Nat.zero_le _⟩ _ rfl ?_
      refine g_if_ne X 32 dX5_out_26 (by decide) (bN_eq0) (fun c_4 => ?_) (fun c_4 => ?_)
      · have c_4 := Decidable.of_not_not c_4
        refine g_iload_n X 2 dX5_out_32 rfl rfl ?_
        refine g_if_ne X 45 dX5_out_33 (by decide) (n0_eq (by omega)) (fun c_5 => ?_) (fun c_5 => ?_)
        · refine g_iload_n X 2 dX5_out_45 rfl rfl ?_
          refine g_iconst X (v := nI 1) dX5_out_46 (by decide) ?_
          refine g_icmp_ne X 59 dX5_out_47 (by decide) (nI_eq (by omega) (by omega)) (fun c_6 => ?_) (fun c_6 => ?_)
          · refine g_iload_n X 2 dX5_out_59 rfl rfl ?_
            refine g_iconst X (v := nI 2) dX5_out_60 (by decide) ?_
            refine g_icmp_ne X 73 dX5_out_61 (by decide) (nI_eq (by omega) (by omega)) (fun c_7 => ?_) (fun c_7 => ?_)
            · exact absurd c_7 (by decide)
            · refine g_aload_n X 0 dX5_out_64 rfl rfl ?_
              refine g_get X 10 0 cm10 rfl 20 (by decide) hiX5 (by decide +kernel) rfl rfl dX5_out_65 ?_
              refine g_iload_n X 1 dX5_out_68 rfl rfl ?_
              refine g_iald X 24 0 cm24 j (by omega) (by decide) rfl dX5_out_69 ?_
              refine g_goto X 84 dX5_out_70 (by decide) ?_
              exact g_iret X rfl dX5_out_84 ⟨by rw [k24u_1], rfl, by subst hu_1; rfl⟩
          · exact absurd c_6 (by decide)
        · exact absurd c_5 (by decide)
      · exact absurd (inB_nI (by decide) (by decide) (by decide)) c_4
    · exact absurd c_3 (by omega)

set_option maxRecDepth 100000 in
set_option maxHeartbeats 4000000 in
/-- out -/
theorem m_out_3 {l : Launch} {D : va_G} {ta : Nat → ClassId} {pl : Nat → Nat} {bs : Nat} {al : Ad} {Z : Wo} {u : St} (j : Nat) (h : j < u 6 0) (h6 : u 6 0 ≤ 400) (hg : u 22 j ≤ 400) : GD l D ta pl bs yX5_out wsX5_out (rmF 1 22) [.ref (al 10 0), .int (nI j), .int (nI 3)] al (mM Z ta al u) (some (.int (nI (u 17 (u 22 j))))) (mM Z ta al (st u 0 0 0)) := by
  refine GM.of (by decide) rfl (Nat.le_of_ble_eq_true rfl) ?_
  intro p e s m args below meth c X hnm
  have hiX5 : ∀ w ∈ u_ws RX5 TX5 22, w ∈ wsX5_out := by decide +kernel
  refine g_lv (lv' := [(0, .ref (al 10 0)), (1, .int (nI j)), (2, .int (nI 3))]) [0, 1, 2] rfl ?_
  refine g_aload_n X 0 dX5_out_0 rfl rfl ?_
  refine g_iconst X (v := nI 0) dX5_out_1 (by decide) ?_
  refine g_put X tyX5 tyX5_ok nmX5 10 0 cm10 rfl 0 (by decide) hiX5 (by decide +kernel) rfl rfl (ty := .int) (by decide +kernel) rfl rfl (Nat.le_of_ble_eq_true rfl) _ um_thrown dX5_out_2 ?_
  generalize hu_1 : st u 0 0 0 = u_1
  have k6u_1 : u_1 6 0 = u 6 0 := by rw [← hu_1]; first | rfl | exact st_nf (by omega)
  have k22u_1 : u_1 22 j = u 22 j := by rw [← hu_1]; first | rfl | exact st_nf (by omega)
  have k23u_1 : u_1 23 j = u 23 j := by rw [← hu_1]; first | rfl | exact st_nf (by omega)
  have k24u_1 : u_1 24 j = u 24 j := by rw [← hu_1]; first | rfl | exact st_nf (by omega)
  have k5u_1 : u_1 5 0 = u 5 0 := by rw [← hu_1]; first | rfl | exact st_nf (by omega)
  refine g_iload_n X 1 dX5_out_5 rfl rfl ?_
  refine g_if_lt X 17 dX5_out_6 (by decide) (n0_lt (by omega)) (fun c_2 => ?_) (fun c_2 => ?_)
  · exact absurd c_2 (fun z => z)
  · refine g_iload_n X 1 dX5_out_9 rfl rfl ?_
    refine g_aload_n X 0 dX5_out_10 rfl rfl ?_
    refine g_get X 10 0 cm10 rfl 17 (by decide) hiX5 (by decide +kernel) rfl rfl dX5_out_11 ?_
    refine g_icmp_lt X 20 dX5_out_14 (by decide) (nI_ltI (by omega) (by omega)) (fun c_3 => ?_) (fun c_3 => ?_)
    · refine g_iload_n X 2 dX5_out_20 rfl rfl ?_
      refine g_iconst X (v := nI 0) dX5_out_21 (by decide) ?_
      refine g_iconst X (v := nI 3) dX5_out_22 (by decide) ?_
      refine g_callDS1 (n := 3) X [.int (nI 3), .int (nI 0), .int (nI 3)] (m_in ((nI 3)) ((nI 0)) ((nI 3))) gX5_out_X5_in rfl ⟨rfl, rfl⟩ (by decide +kernel) ⟨by decide, by decide⟩ rfl (Nat.le_of_ble_eq_true rfl) dX5_out_23 ⟨Nat.zero_le _, Nat.zero_le _⟩ _ rfl ?_
      refine g_if_ne X 32 dX5_out_26 (by decide) (bN_eq0) (fun c_4 => ?_) (fun c_4 => ?_)
      · have c_4 := Decidable.of_not_not c_4
        refine g_iload_n X 2 dX5_out_32 rfl rfl ?_
        refine g_if_ne X 45 dX5_out_33 (by decide) (n0_eq (by omega)) (fun c_5 => ?_) (fun c_5 => ?_)
        · refine g_iload_n X 2 dX5_out_45 rfl rfl ?_
          refine g_iconst X (v := nI 1) dX5_out_46 (by decide) ?_
          refine g_icmp_ne X 59 dX5_out_47 (by decide) (nI_eq (by omega) (by omega)) (fun c_6 => ?_) (fun c_6 => ?_)
          · refine g_iload_n X 2 dX5_out_59 rfl rfl ?_
            refine g_iconst X (v := nI 2) dX5_out_60 (by decide) ?_
            refine g_icmp_ne X 73 dX5_out_61 (by decide) (nI_eq (by omega) (by omega)) (fun c_7 => ?_) (fun c_7 => ?_)
            · refine g_aload_n X 0 dX5_out_73 rfl rfl ?_
              refine g_get X 10 0 cm10 rfl 12 (by decide) hiX5 (by decide +kernel) rfl rfl dX5_out_74 ?_
              refine g_aload_n X 0 dX5_out_77 rfl rfl ?_
              refine g_get X 10 0 cm10 rfl 18 (by decide) hiX5 (by decide +kernel) rfl rfl dX5_out_78 ?_
              refine g_iload_n X 1 dX5_out_81 rfl rfl ?_
              refine g_iald X 22 0 cm22 j (by omega) (by decide) rfl dX5_out_82 ?_
              refine g_iald X 17 0 cm17 (u_1 22 j) (by omega) (by decide) rfl dX5_out_83 ?_
              exact g_iret X rfl dX5_out_84 ⟨by subst hu_1; rfl, rfl, by subst hu_1; rfl⟩
            · exact absurd c_7 (by decide)
          · exact absurd c_6 (by decide)
        · exact absurd c_5 (by decide)
      · exact absurd (inB_nI (by decide) (by decide) (by decide)) c_4
    · exact absurd c_3 (by omega)

set_option maxRecDepth 100000 in
set_option maxHeartbeats 4000000 in
/-- out -/
theorem m_out_o {l : Launch} {D : va_G} {ta : Nat → ClassId} {pl : Nat → Nat} {bs : Nat} {al : Ad} {Z : Wo} {u : St} (j : Nat) (y : Int32) (h : j < u 6 0) (h6 : u 6 0 ≤ 400) (hy : ¬ inB y 0 3) : GD l D ta pl bs yX5_out wsX5_out (rmF 1 22) [.ref (al 10 0), .int (nI j), .int y] al (mM Z ta al u) (some (.int (-12))) (mM Z ta al (st u 0 0 0)) := by
  refine GM.of (by decide) rfl (Nat.le_of_ble_eq_true rfl) ?_
  intro p e s m args below meth c X hnm
  have hiX5 : ∀ w ∈ u_ws RX5 TX5 22, w ∈ wsX5_out := by decide +kernel
  refine g_lv (lv' := [(0, .ref (al 10 0)), (1, .int (nI j)), (2, .int y)]) [0, 1, 2] rfl ?_
  refine g_aload_n X 0 dX5_out_0 rfl rfl ?_
  refine g_iconst X (v := nI 0) dX5_out_1 (by decide) ?_
  refine g_put X tyX5 tyX5_ok nmX5 10 0 cm10 rfl 0 (by decide) hiX5 (by decide +kernel) rfl rfl (ty := .int) (by decide +kernel) rfl rfl (Nat.le_of_ble_eq_true rfl) _ um_thrown dX5_out_2 ?_
  generalize hu_1 : st u 0 0 0 = u_1
  have k6u_1 : u_1 6 0 = u 6 0 := by rw [← hu_1]; first | rfl | exact st_nf (by omega)
  have k22u_1 : u_1 22 j = u 22 j := by rw [← hu_1]; first | rfl | exact st_nf (by omega)
  have k23u_1 : u_1 23 j = u 23 j := by rw [← hu_1]; first | rfl | exact st_nf (by omega)
  have k24u_1 : u_1 24 j = u 24 j := by rw [← hu_1]; first | rfl | exact st_nf (by omega)
  have k5u_1 : u_1 5 0 = u 5 0 := by rw [← hu_1]; first | rfl | exact st_nf (by omega)
  refine g_iload_n X 1 dX5_out_5 rfl rfl ?_
  refine g_if_lt X 17 dX5_out_6 (by decide) (n0_lt (by omega)) (fun c_2 => ?_) (fun c_2 => ?_)
  · exact absurd c_2 (fun z => z)
  · refine g_iload_n X 1 dX5_out_9 rfl rfl ?_
    refine g_aload_n X 0 dX5_out_10 rfl rfl ?_
    refine g_get X 10 0 cm10 rfl 17 (by decide) hiX5 (by decide +kernel) rfl rfl dX5_out_11 ?_
    refine g_icmp_lt X 20 dX5_out_14 (by decide) (nI_ltI (by omega) (by omega)) (fun c_3 => ?_) (fun c_3 => ?_)
    · refine g_iload_n X 2 dX5_out_20 rfl rfl ?_
      refine g_iconst X (v := nI 0) dX5_out_21 (by decide) ?_
      refine g_iconst X (v := nI 3) dX5_out_22 (by decide) ?_
      refine g_callDS1 (n := 3) X [.int y, .int (nI 0), .int (nI 3)] (m_in y ((nI 0)) ((nI 3))) gX5_out_X5_in rfl ⟨rfl, rfl⟩ (by decide +kernel) ⟨by decide, by decide⟩ rfl (Nat.le_of_ble_eq_true rfl) dX5_out_23 ⟨Nat.zero_le _, Nat.zero_le _⟩ _ rfl ?_
      refine g_if_ne X 32 dX5_out_26 (by decide) (bN_eq0) (fun c_4 => ?_) (fun c_4 => ?_)
      · have c_4 := Decidable.of_not_not c_4
        exact absurd c_4 hy
      · refine g_bipush X (v := -12) dX5_out_29 (by decide) ?_
        exact g_iret X rfl dX5_out_31 ⟨rfl, rfl, by subst hu_1; rfl⟩
    · exact absurd c_3 (by omega)

set_option maxRecDepth 100000 in
set_option maxHeartbeats 4000000 in
/-- induct -/
theorem m_induct_u {l : Launch} {D : va_G} {ta : Nat → ClassId} {pl : Nat → Nat} {bs : Nat} {al : Ad} {Z : Wo} {u : St} (x y z : Int32) (h : ¬ (inB x 0 3 ∧ inB z 0 15)) : GD l D ta pl bs yX5_induct wsX5_induct (rmF 1 22) [.ref (al 10 0), .int x, .int y, .int z] al (mM Z ta al u) (some (.int (-11))) (mM Z ta al (st u 0 0 0)) := by
  refine GM.of (by decide) rfl (Nat.le_of_ble_eq_true rfl) ?_
  intro p e s m args below meth c X hnm
  have hiX5 : ∀ w ∈ u_ws RX5 TX5 22, w ∈ wsX5_induct := by decide +kernel
  refine g_lv (lv' := [(0, .ref (al 10 0)), (1, .int x), (2, .int y), (3, .int z)]) [0, 1, 2, 3] rfl ?_
  refine g_aload_n X 0 dX5_induct_0 rfl rfl ?_
  refine g_iconst X (v := nI 0) dX5_induct_1 (by decide) ?_
  refine g_put X tyX5 tyX5_ok nmX5 10 0 cm10 rfl 0 (by decide) hiX5 (by decide +kernel) rfl rfl (ty := .int) (by decide +kernel) rfl rfl (Nat.le_of_ble_eq_true rfl) _ um_thrown dX5_induct_2 ?_
  generalize hu_1 : st u 0 0 0 = u_1
  have k1u_1 : u_1 1 0 = u 1 0 := by rw [← hu_1]; first | rfl | exact st_nf (by omega)
  have k5u_1 : u_1 5 0 = u 5 0 := by rw [← hu_1]; first | rfl | exact st_nf (by omega)
  refine g_iload_n X 1 dX5_induct_5 rfl rfl ?_
  refine g_iconst X (v := nI 0) dX5_induct_6 (by decide) ?_
  refine g_iconst X (v := nI 3) dX5_induct_7 (by decide) ?_
  refine g_callDS1 (n := 3) X [.int x, .int (nI 0), .int (nI 3)] (m_in x ((nI 0)) ((nI 3))) gX5_induct_X5_in rfl ⟨rfl, rfl⟩ (by decide +kernel) ⟨by decide, by decide⟩ rfl (Nat.le_of_ble_eq_true rfl) dX5_induct_8 ⟨Nat.zero_le _, Nat.zero_le _⟩ _ rfl ?_
  refine g_if_eq X 24 dX5_induct_11 (by decide) (bN_eq0) (fun c_2 => ?_) (fun c_2 => ?_)
  · refine g_bipush X (v := -11) dX5_induct_24 (by decide) ?_
    exact g_iret X rfl dX5_induct_26 ⟨rfl, rfl, by subst hu_1; rfl⟩
  · have c_2 := Decidable.of_not_not c_2
    refine g_iload_n X 3 dX5_induct_14 rfl rfl ?_
    refine g_iconst X (v := nI 0) dX5_induct_15 (by decide) ?_
    refine g_bipush X (v := nI 15) dX5_induct_16 (by decide) ?_
    refine g_callDS1 (n := 3) X [.int z, .int (nI 0), .int (nI 15)] (m_in z ((nI 0)) ((nI 15))) gX5_induct_X5_in rfl ⟨rfl, rfl⟩ (by decide +kernel) ⟨by decide, by decide⟩ rfl (Nat.le_of_ble_eq_true rfl) dX5_induct_18 ⟨Nat.zero_le _, Nat.zero_le _⟩ _ rfl ?_
    refine g_if_ne X 27 dX5_induct_21 (by decide) (bN_eq0) (fun c_3 => ?_) (fun c_3 => ?_)
    · have c_3 := Decidable.of_not_not c_3
      exact absurd ⟨c_2, c_3⟩ h
    · refine g_bipush X (v := -11) dX5_induct_24 (by decide) ?_
      exact g_iret X rfl dX5_induct_26 ⟨rfl, rfl, by subst hu_1; rfl⟩

set_option maxRecDepth 100000 in
set_option maxHeartbeats 4000000 in
/-- induct -/
theorem m_induct_o {l : Launch} {D : va_G} {ta : Nat → ClassId} {pl : Nat → Nat} {bs : Nat} {al : Ad} {Z : Wo} {u : St} (x y z : Int32) (h : inB x 0 3 ∧ inB z 0 15) (hy : ¬ inB y 1 2) : GD l D ta pl bs yX5_induct wsX5_induct (rmF 1 22) [.ref (al 10 0), .int x, .int y, .int z] al (mM Z ta al u) (some (.int (-12))) (mM Z ta al (st u 0 0 0)) := by
  refine GM.of (by decide) rfl (Nat.le_of_ble_eq_true rfl) ?_
  intro p e s m args below meth c X hnm
  have hiX5 : ∀ w ∈ u_ws RX5 TX5 22, w ∈ wsX5_induct := by decide +kernel
  refine g_lv (lv' := [(0, .ref (al 10 0)), (1, .int x), (2, .int y), (3, .int z)]) [0, 1, 2, 3] rfl ?_
  refine g_aload_n X 0 dX5_induct_0 rfl rfl ?_
  refine g_iconst X (v := nI 0) dX5_induct_1 (by decide) ?_
  refine g_put X tyX5 tyX5_ok nmX5 10 0 cm10 rfl 0 (by decide) hiX5 (by decide +kernel) rfl rfl (ty := .int) (by decide +kernel) rfl rfl (Nat.le_of_ble_eq_true rfl) _ um_thrown dX5_induct_2 ?_
  generalize hu_1 : st u 0 0 0 = u_1
  have k1u_1 : u_1 1 0 = u 1 0 := by rw [← hu_1]; first | rfl | exact st_nf (by omega)
  have k5u_1 : u_1 5 0 = u 5 0 := by rw [← hu_1]; first | rfl | exact st_nf (by omega)
  refine g_iload_n X 1 dX5_induct_5 rfl rfl ?_
  refine g_iconst X (v := nI 0) dX5_induct_6 (by decide) ?_
  refine g_iconst X (v := nI 3) dX5_induct_7 (by decide) ?_
  refine g_callDS1 (n := 3) X [.int x, .int (nI 0), .int (nI 3)] (m_in x ((nI 0)) ((nI 3))) gX5_induct_X5_in rfl ⟨rfl, rfl⟩ (by decide +kernel) ⟨by decide, by decide⟩ rfl (Nat.le_of_ble_eq_true rfl) dX5_induct_8 ⟨Nat.zero_le _, Nat.zero_le _⟩ _ rfl ?_
  refine g_if_eq X 24 dX5_induct_11 (by decide) (bN_eq0) (fun c_2 => ?_) (fun c_2 => ?_)
  · exact absurd h.1 c_2
  · have c_2 := Decidable.of_not_not c_2
    refine g_iload_n X 3 dX5_induct_14 rfl rfl ?_
    refine g_iconst X (v := nI 0) dX5_induct_15 (by decide) ?_
    refine g_bipush X (v := nI 15) dX5_induct_16 (by decide) ?_
    refine g_callDS1 (n := 3) X [.int z, .int (nI 0), .int (nI 15)] (m_in z ((nI 0)) ((nI 15))) gX5_induct_X5_in rfl ⟨rfl, rfl⟩ (by decide +kernel) ⟨by decide, by decide⟩ rfl (Nat.le_of_ble_eq_true rfl) dX5_induct_18 ⟨Nat.zero_le _, Nat.zero_le _⟩ _ rfl ?_
    refine g_if_ne X 27 dX5_induct_21 (by decide) (bN_eq0) (fun c_3 => ?_) (fun c_3 => ?_)
    · have c_3 := Decidable.of_not_not c_3
      refine g_iload_n X 2 dX5_induct_27 rfl rfl ?_
      refine g_iconst X (v := nI 1) dX5_induct_28 (by decide) ?_
      refine g_iconst X (v := nI 2) dX5_induct_29 (by decide) ?_
      refine g_callDS1 (n := 3) X [.int y, .int (nI 1), .int (nI 2)] (m_in y ((nI 1)) ((nI 2))) gX5_induct_X5_in rfl ⟨rfl, rfl⟩ (by decide +kernel) ⟨by decide, by decide⟩ rfl (Nat.le_of_ble_eq_true rfl) dX5_induct_30 ⟨Nat.zero_le _, Nat.zero_le _⟩ _ rfl ?_
      refine g_if_ne X 39 dX5_induct_33 (by decide) (bN_eq0) (fun c_4 => ?_) (fun c_4 => ?_)
      · have c_4 := Decidable.of_not_not c_4
        exact absurd c_4 hy
      · refine g_bipush X (v := -12) dX5_induct_36 (by decide) ?_
        exact g_iret X rfl dX5_induct_38 ⟨rfl, rfl, by subst hu_1; rfl⟩
    · exact absurd h.2 c_3

set_option maxRecDepth 100000 in
set_option maxHeartbeats 4000000 in
/-- induct -/
theorem m_induct_r {l : Launch} {D : va_G} {ta : Nat → ClassId} {pl : Nat → Nat} {bs : Nat} {al : Ad} {Z : Wo} {u : St} (x y z : Int32) (h : inB x 0 3 ∧ inB z 0 15) (hy : inB y 1 2) (hr : u 5 0 = 400) : GD l D ta pl bs yX5_induct wsX5_induct (rmF 1 22) [.ref (al 10 0), .int x, .int y, .int z] al (mM Z ta al u) (some (.int (-14))) (mM Z ta al (st u 0 0 0)) := by
  refine GM.of (by decide) rfl (Nat.le_of_ble_eq_true rfl) ?_
  intro p e s m args below meth c X hnm
  have hiX5 : ∀ w ∈ u_ws RX5 TX5 22, w ∈ wsX5_induct := by decide +kernel
  refine g_lv (lv' := [(0, .ref (al 10 0)), (1, .int x), (2, .int y), (3, .int z)]) [0, 1, 2, 3] rfl ?_
  refine g_aload_n X 0 dX5_induct_0 rfl rfl ?_
  refine g_iconst X (v := nI 0) dX5_induct_1 (by decide) ?_
  refine g_put X tyX5 tyX5_ok nmX5 10 0 cm10 rfl 0 (by decide) hiX5 (by decide +kernel) rfl rfl (ty := .int) (by decide +kernel) rfl rfl (Nat.le_of_ble_eq_true rfl) _ um_thrown dX5_induct_2 ?_
  generalize hu_1 : st u 0 0 0 = u_1
  have k5u_1 : u_1 5 0 = u 5 0 := by rw [← hu_1]; first | rfl | exact st_nf (by omega)
  refine g_iload_n X 1 dX5_induct_5 rfl rfl ?_
  refine g_iconst X (v := nI 0) dX5_induct_6 (by decide) ?_
  refine g_iconst X (v := nI 3) dX5_induct_7 (by decide) ?_
  refine g_callDS1 (n := 3) X [.int x, .int (nI 0), .int (nI 3)] (m_in x ((nI 0)) ((nI 3))) gX5_induct_X5_in rfl ⟨rfl, rfl⟩ (by decide +kernel) ⟨by decide, by decide⟩ rfl (Nat.le_of_ble_eq_true rfl) dX5_induct_8 ⟨Nat.zero_le _, Nat.zero_le _⟩ _ rfl ?_
  refine g_if_eq X 24 dX5_induct_11 (by decide) (bN_eq0) (fun c_2 => ?_) (fun c_2 => ?_)
  · exact absurd h.1 c_2
  · have c_2 := Decidable.of_not_not c_2
    refine g_iload_n X 3 dX5_induct_14 rfl rfl ?_
    refine g_iconst X (v := nI 0) dX5_induct_15 (by decide) ?_
    refine g_bipush X (v := nI 15) dX5_induct_16 (by decide) ?_
    refine g_callDS1 (n := 3) X [.int z, .int (nI 0), .int (nI 15)] (m_in z ((nI 0)) ((nI 15))) gX5_induct_X5_in rfl ⟨rfl, rfl⟩ (by decide +kernel) ⟨by decide, by decide⟩ rfl (Nat.le_of_ble_eq_true rfl) dX5_induct_18 ⟨Nat.zero_le _, Nat.zero_le _⟩ _ rfl ?_
    refine g_if_ne X 27 dX5_induct_21 (by decide) (bN_eq0) (fun c_3 => ?_) (fun c_3 => ?_)
    · have c_3 := Decidable.of_not_not c_3
      refine g_iload_n X 2 dX5_induct_27 rfl rfl ?_
      refine g_iconst X (v := nI 1) dX5_induct_28 (by decide) ?_
      refine g_iconst X (v := nI 2) dX5_induct_29 (by decide) ?_
      refine g_callDS1 (n := 3) X [.int y, .int (nI 1), .int (nI 2)] (m_in y ((nI 1)) ((nI 2))) gX5_induct_X5_in rfl ⟨rfl, rfl⟩ (by decide +kernel) ⟨by decide, by decide⟩ rfl (Nat.le_of_ble_eq_true rfl) dX5_induct_30 ⟨Nat.zero_le _, Nat.zero_le _⟩ _ rfl ?_
      refine g_if_ne X 39 dX5_induct_33 (by decide) (bN_eq0) (fun c_4 => ?_) (fun c_4 => ?_)
      · have c_4 := Decidable.of_not_not c_4
        refine g_aload_n X 0 dX5_induct_39 rfl rfl ?_
        refine g_get X 10 0 cm10 rfl 7 (by decide) hiX5 (by decide +kernel) rfl rfl dX5_induct_40 ?_
        refine g_sipush X (v := nI 400) dX5_induct_43 (by decide) ?_
        refine g_icmp_ne X 52 dX5_induct_46 (by decide) (nI_eq (by omega) (by omega)) (fun c_5 => ?_) (fun c_5 => ?_)
        · exact absurd (by omega) c_5
        · refine g_bipush X (v := -14) dX5_induct_49 (by decide) ?_
          exact g_iret X rfl dX5_induct_51 ⟨rfl, rfl, by subst hu_1; rfl⟩
      · exact absurd hy c_4
    · exact absurd h.2 c_3

set_option maxRecDepth 100000 in
set_option maxHeartbeats 4000000 in
/-- induct -/
theorem m_induct_0 {l : Launch} {D : va_G} {ta : Nat → ClassId} {pl : Nat → Nat} {bs : Nat} {al : Ad} {Z : Wo} {u : St} (j : Nat) (y z : Int32) (h : inB (nI j) 0 3 ∧ inB z 0 15) (hy : inB y 1 2) (hr : u 5 0 < 400) (hw : mW (st u 0 0 0) j (st u 0 0 0 5 0) = 8) : GD l D ta pl bs yX5_induct wsX5_induct (rmF 1 23) [.ref (al 10 0), .int (nI j), .int y, .int z] al (mM Z ta al u) (some (.int (nI 0))) (mM Z ta al (st u 0 0 0)) := by
  refine GM.of (by decide) rfl (Nat.le_of_ble_eq_true rfl) ?_
  intro p e s m args below meth c X hnm
  have hiX5 : ∀ w ∈ u_ws RX5 TX5 22, w ∈ wsX5_induct := by decide +kernel
  refine g_lv (lv' := [(0, .ref (al 10 0)), (1, .int (nI j)), (2, .int y), (3, .int z)]) [0, 1, 2, 3] rfl ?_
  refine g_aload_n X 0 dX5_induct_0 rfl rfl ?_
  refine g_iconst X (v := nI 0) dX5_induct_1 (by decide) ?_
  refine g_put X tyX5 tyX5_ok nmX5 10 0 cm10 rfl 0 (by decide) hiX5 (by decide +kernel) rfl rfl (ty := .int) (by decide +kernel) rfl rfl (Nat.le_of_ble_eq_true rfl) _ um_thrown dX5_induct_2 ?_
  generalize hu_1 : st u 0 0 0 = u_1
  have k5u_1 : u_1 5 0 = u 5 0 := by rw [← hu_1]; first | rfl | exact st_nf (by omega)
  refine g_iload_n X 1 dX5_induct_5 rfl rfl ?_
  refine g_iconst X (v := nI 0) dX5_induct_6 (by decide) ?_
  refine g_iconst X (v := nI 3) dX5_induct_7 (by decide) ?_
  refine g_callDS1 (n := 3) X [.int (nI j), .int (nI 0), .int (nI 3)] (m_in ((nI j)) ((nI 0)) ((nI 3))) gX5_induct_X5_in rfl ⟨rfl, rfl⟩ (by decide +kernel) ⟨by decide, by decide⟩ rfl (Nat.le_of_ble_eq_true rfl) dX5_induct_8 ⟨Nat.zero_le _, Nat.zero_le _⟩ _ rfl ?_
  refine g_if_eq X 24 dX5_induct_11 (by decide) (bN_eq0) (fun c_2 => ?_) (fun c_2 => ?_)
  · exact absurd h.1 c_2
  · have c_2 := Decidable.of_not_not c_2
    refine g_iload_n X 3 dX5_induct_14 rfl rfl ?_
    refine g_iconst X (v := nI 0) dX5_induct_15 (by decide) ?_
    refine g_bipush X (v := nI 15) dX5_induct_16 (by decide) ?_
    refine g_callDS1 (n := 3) X [.int z, .int (nI 0), .int (nI 15)] (m_in z ((nI 0)) ((nI 15))) gX5_induct_X5_in rfl ⟨rfl, rfl⟩ (by decide +kernel) ⟨by decide, by decide⟩ rfl (Nat.le_of_ble_eq_true rfl) dX5_induct_18 ⟨Nat.zero_le _, Nat.zero_le _⟩ _ rfl ?_
    refine g_if_ne X 27 dX5_induct_21 (by decide) (bN_eq0) (fun c_3 => ?_) (fun c_3 => ?_)
    · have c_3 := Decidable.of_not_not c_3
      refine g_iload_n X 2 dX5_induct_27 rfl rfl ?_
      refine g_iconst X (v := nI 1) dX5_induct_28 (by decide) ?_
      refine g_iconst X (v := nI 2) dX5_induct_29 (by decide) ?_
      refine g_callDS1 (n := 3) X [.int y, .int (nI 1), .int (nI 2)] (m_in y ((nI 1)) ((nI 2))) gX5_induct_X5_in rfl ⟨rfl, rfl⟩ (by decide +kernel) ⟨by decide, by decide⟩ rfl (Nat.le_of_ble_eq_true rfl) dX5_induct_30 ⟨Nat.zero_le _, Nat.zero_le _⟩ _ rfl ?_
      refine g_if_ne X 39 dX5_induct_33 (by decide) (bN_eq0) (fun c_4 => ?_) (fun c_4 => ?_)
      · have c_4 := Decidable.of_not_not c_4
        refine g_aload_n X 0 dX5_induct_39 rfl rfl ?_
        refine g_get X 10 0 cm10 rfl 7 (by decide) hiX5 (by decide +kernel) rfl rfl dX5_induct_40 ?_
        refine g_sipush X (v := nI 400) dX5_induct_43 (by decide) ?_
        refine g_icmp_ne X 52 dX5_induct_46 (by decide) (nI_eq (by omega) (by omega)) (fun c_5 => ?_) (fun c_5 => ?_)
        · refine g_aload_n X 0 dX5_induct_52 rfl rfl ?_
          refine g_iload_n X 1 dX5_induct_53 rfl rfl ?_
          refine g_callDV1 (n := 1) X 10 0 [.int (nI j)] cm10 rfl (m_waiting j (by omega)) gX5_induct_X5_waiting rfl ⟨rfl, rfl⟩ (by decide +kernel) ⟨by decide, by decide⟩ rfl (Nat.le_of_ble_eq_true rfl) dX5_induct_54 ⟨Nat.zero_le _, Nat.zero_le _⟩ _ rfl ?_
          refine g_bipush X (v := nI 8) dX5_induct_57 (by decide) ?_
          have hm9 := mW_le (v := u_1) (k := j) (u_1 5 0)
          refine g_icmp_ne X 64 dX5_induct_59 (by decide) (nI_eq (by omega) (by omega)) (fun c_6 => ?_) (fun c_6 => ?_)
          · subst hu_1
            exact absurd hw c_6
          · refine g_iconst X (v := nI 0) dX5_induct_62 (by decide) ?_
            exact g_iret X rfl dX5_induct_63 ⟨rfl, rfl, by subst hu_1; rfl⟩
        · exact absurd c_5 (by omega)
      · exact absurd hy c_4
    · exact absurd h.2 c_3

set_option maxRecDepth 100000 in
set_option maxHeartbeats 4000000 in
/-- induct -/
theorem m_induct_1 {l : Launch} {D : va_G} {ta : Nat → ClassId} {pl : Nat → Nat} {bs : Nat} {al : Ad} {Z : Wo} {u : St} (j y z : Nat) (h : inB (nI j) 0 3 ∧ inB (nI z) 0 15) (hy : inB (nI y) 1 2) (hr : u 5 0 < 400) (hw : mW (st u 0 0 0) j (st u 0 0 0 5 0) ≠ 8) : GD l D ta pl bs yX5_induct wsX5_induct (rmF 1 23) [.ref (al 10 0), .int (nI j), .int (nI y), .int (nI z)] al (mM Z ta al u) (some (.int (nI (u 5 0 + 1)))) (mM Z ta al (mAdd (st u 0 0 0) j y z)) := by
  refine GM.of (by decide) rfl (Nat.le_of_ble_eq_true rfl) ?_
  intro p e s m args below meth c X hnm
  have hiX5 : ∀ w ∈ u_ws RX5 TX5 22, w ∈ wsX5_induct := by decide +kernel
  refine g_lv (lv' := [(0, .ref (al 10 0)), (1, .int (nI j)), (2, .int (nI y)), (3, .int (nI z))]) [0, 1, 2, 3] rfl ?_
  refine g_aload_n X 0 dX5_induct_0 rfl rfl ?_
  refine g_iconst X (v := nI 0) dX5_induct_1 (by decide) ?_
  refine g_put X tyX5 tyX5_ok nmX5 10 0 cm10 rfl 0 (by decide) hiX5 (by decide +kernel) rfl rfl (ty := .int) (by decide +kernel) rfl rfl (Nat.le_of_ble_eq_true rfl) _ um_thrown dX5_induct_2 ?_
  generalize hu_1 : st u 0 0 0 = u_1
  have k5u_1 : u_1 5 0 = u 5 0 := by rw [← hu_1]; first | rfl | exact st_nf (by omega)
  refine g_iload_n X 1 dX5_induct_5 rfl rfl ?_
  refine g_iconst X (v := nI 0) dX5_induct_6 (by decide) ?_
  refine g_iconst X (v := nI 3) dX5_induct_7 (by decide) ?_
  refine g_callDS1 (n := 3) X [.int (nI j), .int (nI 0), .int (nI 3)] (m_in ((nI j)) ((nI 0)) ((nI 3))) gX5_induct_X5_in rfl ⟨rfl, rfl⟩ (by decide +kernel) ⟨by decide, by decide⟩ rfl (Nat.le_of_ble_eq_true rfl) dX5_induct_8 ⟨Nat.zero_le _, Nat.zero_le _⟩ _ rfl ?_
  refine g_if_eq X 24 dX5_induct_11 (by decide) (bN_eq0) (fun c_2 => ?_) (fun c_2 => ?_)
  · exact absurd h.1 c_2
  · have c_2 := Decidable.of_not_not c_2
    refine g_iload_n X 3 dX5_induct_14 rfl rfl ?_
    refine g_iconst X (v := nI 0) dX5_induct_15 (by decide) ?_
    refine g_bipush X (v := nI 15) dX5_induct_16 (by decide) ?_
    refine g_callDS1 (n := 3) X [.int (nI z), .int (nI 0), .int (nI 15)] (m_in ((nI z)) ((nI 0)) ((nI 15))) gX5_induct_X5_in rfl ⟨rfl, rfl⟩ (by decide +kernel) ⟨by decide, by decide⟩ rfl (Nat.le_of_ble_eq_true rfl) dX5_induct_18 ⟨Nat.zero_le _, Nat.zero_le _⟩ _ rfl ?_
    refine g_if_ne X 27 dX5_induct_21 (by decide) (bN_eq0) (fun c_3 => ?_) (fun c_3 => ?_)
    · have c_3 := Decidable.of_not_not c_3
      refine g_iload_n X 2 dX5_induct_27 rfl rfl ?_
      refine g_iconst X (v := nI 1) dX5_induct_28 (by decide) ?_
      refine g_iconst X (v := nI 2) dX5_induct_29 (by decide) ?_
      refine g_callDS1 (n := 3) X [.int (nI y), .int (nI 1), .int (nI 2)] (m_in ((nI y)) ((nI 1)) ((nI 2))) gX5_induct_X5_in rfl ⟨rfl, rfl⟩ (by decide +kernel) ⟨by decide, by decide⟩ rfl (Nat.le_of_ble_eq_true rfl) dX5_induct_30 ⟨Nat.zero_le _, Nat.zero_le _⟩ _ rfl ?_
      refine g_if_ne X 39 dX5_induct_33 (by decide) (bN_eq0) (fun c_4 => ?_) (fun c_4 => ?_)
      · have c_4 := Decidable.of_not_not c_4
        refine g_aload_n X 0 dX5_induct_39 rfl rfl ?_
        refine g_get X 10 0 cm10 rfl 7 (by decide) hiX5 (by decide +kernel) rfl rfl dX5_induct_40 ?_
        refine g_sipush X (v := nI 400) dX5_induct_43 (by decide) ?_
        refine g_icmp_ne X 52 dX5_induct_46 (by decide) (nI_eq (by omega) (by omega)) (fun c_5 => ?_) (fun c_5 => ?_)
        · refine g_aload_n X 0 dX5_induct_52 rfl rfl ?_
          refine g_iload_n X 1 dX5_induct_53 rfl rfl ?_
          refine g_callDV1 (n := 1) X 10 0 [.int (nI j)] cm10 rfl (m_waiting j (by omega)) gX5_induct_X5_waiting rfl ⟨rfl, rfl⟩ (by decide +kernel) ⟨by decide, by decide⟩ rfl (Nat.le_of_ble_eq_true rfl) dX5_induct_54 ⟨Nat.zero_le _, Nat.zero_le _⟩ _ rfl ?_
          refine g_bipush X (v := nI 8) dX5_induct_57 (by decide) ?_
          have hm9 := mW_le (v := u_1) (k := j) (u_1 5 0)
          refine g_icmp_ne X 64 dX5_induct_59 (by decide) (nI_eq (by omega) (by omega)) (fun c_6 => ?_) (fun c_6 => ?_)
          · refine g_aload_n X 0 dX5_induct_64 rfl rfl ?_
            refine g_dup X dX5_induct_65 rfl ?_
            refine g_get X 10 0 cm10 rfl 7 (by decide) hiX5 (by decide +kernel) rfl rfl dX5_induct_66 ?_
            refine g_iconst X (v := nI 1) dX5_induct_69 (by decide) ?_
            refine g_iadd X dX5_induct_70 (nI_add _ _) ?_
            refine g_put X tyX5 tyX5_ok nmX5 10 0 cm10 rfl 7 (by decide) hiX5 (by decide +kernel) rfl rfl (ty := .int) (by decide +kernel) rfl rfl (Nat.le_of_ble_eq_true rfl) _ um_items dX5_induct_71 ?_
            generalize hu_7 : st u_1 5 0 ((u_1 5 0) + 1) = u_7
            have k5u_7 : u_7 5 0 = u 5 0 + 1 := by rw [← hu_7, ← hu_1]; rfl
            refine g_aload_n X 0 dX5_induct_74 rfl rfl ?_
            refine g_get X 10 0 cm10 rfl 13 (by decide) hiX5 (by decide +kernel) rfl rfl dX5_induct_75 ?_
            refine g_aload_n X 0 dX5_induct_78 rfl rfl ?_
            refine g_get X 10 0 cm10 rfl 7 (by decide) hiX5 (by decide +kernel) rfl rfl dX5_induct_79 ?_
            refine g_iload_n X 1 dX5_induct_82 rfl rfl ?_
            refine g_iast X 18 0 cm18 (u_7 5 0) (by omega) (by decide) _ um_a18 dX5_induct_83 ?_
            generalize hu_8 : st u_7 18 (u_7 5 0) j = u_8
            have k5u_8 : u_8 5 0 = u_7 5 0 := by rw [← hu_8]; first | rfl | exact st_nf (by omega)
            refine g_aload_n X 0 dX5_induct_84 rfl rfl ?_
            refine g_get X 10 0 cm10 rfl 8 (by decide) hiX5 (by decide +kernel) rfl rfl dX5_induct_85 ?_
            refine g_aload_n X 0 dX5_induct_88 rfl rfl ?_
            refine g_get X 10 0 cm10 rfl 7 (by decide) hiX5 (by decide +kernel) rfl rfl dX5_induct_89 ?_
            refine g_iload_n X 2 dX5_induct_92 rfl rfl ?_
            refine g_iast X 13 0 cm13 (u_8 5 0) (by omega) (by decide) _ um_a13 dX5_induct_93 ?_
            generalize hu_9 : st u_8 13 (u_8 5 0) y = u_9
            have k5u_9 : u_9 5 0 = u_8 5 0 := by rw [← hu_9]; first | rfl | exact st_nf (by omega)
            refine g_aload_n X 0 dX5_induct_94 rfl rfl ?_
            refine g_get X 10 0 cm10 rfl 9 (by decide) hiX5 (by decide +kernel) rfl rfl dX5_induct_95 ?_
            refine g_aload_n X 0 dX5_induct_98 rfl rfl ?_
            refine g_get X 10 0 cm10 rfl 7 (by decide) hiX5 (by decide +kernel) rfl rfl dX5_induct_99 ?_
            refine g_iload_n X 3 dX5_induct_102 rfl rfl ?_
            refine g_iast X 14 0 cm14 (u_9 5 0) (by omega) (by decide) _ um_a14 dX5_induct_103 ?_
            generalize hu_10 : st u_9 14 (u_9 5 0) z = u_10
            have k5u_10 : u_10 5 0 = u_9 5 0 := by rw [← hu_10]; first | rfl | exact st_nf (by omega)
            refine g_aload_n X 0 dX5_induct_104 rfl rfl ?_
            refine g_get X 10 0 cm10 rfl 7 (by decide) hiX5 (by decide +kernel) rfl rfl dX5_induct_105 ?_
            exact g_iret X rfl dX5_induct_108 ⟨by rw [k5u_10, k5u_9, k5u_8, k5u_7], rfl, congrArg _ (by subst hu_10; subst hu_9; subst hu_8; subst hu_7; subst hu_1; rfl)⟩
          · subst hu_1
            exact absurd c_6 hw
        · exact absurd c_5 (by omega)
      · exact absurd hy c_4
    · exact absurd h.2 c_3
end
section
section GMa
variable {p : Program} {l : Launch} {e : Env} {R : Room} {s : State} {m : MethodId} {args : Array Value} {below : List Frame} {meth : Method} {c : Code} {Q : State → Prop}
variable {D : va_G} {ta : Nat → ClassId} {pl : Nat → Nat} {bs nL : Nat} {cc : ByteArray} {Ts : List Cond} {own : String} {rt : Option FieldType}
variable {al : Ad} {C : Wo} {cells slots pc : Nat} {lv : List (Nat × Value)} {st : List Value}
theorem g_mmax (X : Cx D ta pl bs nL p s m args meth c cc Ts own rt) {index : Nat} {x y v : Int32} (h1 : Cond.methodLink own index Lib.Math.max.name ∈ Ts) (h2 : Cond.static Lib.Math.max.name ∈ Ts) (h3 : Cond.initialized "java/lang/Math" ∈ Ts) (h4 : Cond.code Lib.Math.max.name Lib.Math.max.code 2 (some .int) ∈ Ts) (hf : 1 ≤ R.frames) (hlo : (st.map fun v => v.category).sum + 13 ≤ R.locals) (hc : cells ≤ R.cells ∧ slots ≤ R.slots) (hd : decode cc pc = .ok (.invokestatic index, 3)) (hv : (if x < y then y else x) = v) (K : WW D bs nL p l e R s m args below meth c Q al C cells slots (pc + 3) lv (.int v :: st)) : WW D bs nL p l e R s m args below meth c Q al C cells slots pc lv (.int y :: .int x :: st) :=
  fun H locs ls hw hS hl => va_mmax X.1.1 X.1.2.1 (X.1.2.2.1.trans hl.1.symm) X.1.2.2.2.1 (X.1.2.2.2.2 _ h1) (X.1.2.2.2.2 _ h2) (X.1.2.2.2.2 _ h3) (X.1.2.2.2.2 _ h4) hf hlo hc.1 hc.2 hd (by rw [hv]; exact K H locs ls hw hS hl)
theorem g_mmin (X : Cx D ta pl bs nL p s m args meth c cc Ts own rt) {index : Nat} {x y v : Int32} (h1 : Cond.methodLink own index Lib.Math.min.name ∈ Ts) (h2 : Cond.static Lib.Math.min.name ∈ Ts) (h3 : Cond.initialized "java/lang/Math" ∈ Ts) (h4 : Cond.code Lib.Math.min.name Lib.Math.min.code 2 (some .int) ∈ Ts) (hf : 1 ≤ R.frames) (hlo : (st.map fun v => v.category).sum + 13 ≤ R.locals) (hc : cells ≤ R.cells ∧ slots ≤ R.slots) (hd : decode cc pc = .ok (.invokestatic index, 3)) (hv : (if y < x then y else x) = v) (K : WW D bs nL p l e R s m args below meth c Q al C cells slots (pc + 3) lv (.int v :: st)) : WW D bs nL p l e R s m args below meth c Q al C cells slots pc lv (.int y :: .int x :: st) :=
  fun H locs ls hw hS hl => va_mmin X.1.1 X.1.2.1 (X.1.2.2.1.trans hl.1.symm) X.1.2.2.2.1 (X.1.2.2.2.2 _ h1) (X.1.2.2.2.2 _ h2) (X.1.2.2.2.2 _ h3) (X.1.2.2.2.2 _ h4) hf hlo hc.1 hc.2 hd (by rw [hv]; exact K H locs ls hw hS hl)
end GMa
theorem wup_wup {C : Wo} {k i : Nat} {e e2 : va_E} : wup (wup C k i e) k i e2 = wup C k i e2 := by
  funext k' i'; by_cases h : k' = k ∧ i' = i <;> simp [wup, h]
theorem wup_3 {C : Wo} {k i k2 i2 : Nat} {e e2 x : va_E} (hk : k2 ≠ k) : wup (wup (wup C k i e) k2 i2 x) k i e2 = wup (wup C k2 i2 x) k i e2 := by
  funext k' i'; by_cases h : k' = k ∧ i' = i
  · simp [wup, h]
  · by_cases h2 : k' = k2 ∧ i' = i2 <;> simp [wup, h, h2]
def cl (x : Int32) (n : Nat) : Nat := if x < nI 1 then 1 else if nI n < x then n else x.toNatClampNeg
theorem cl_cases (x : Int32) {n : Nat} (h1 : 1 ≤ n) (h2 : n ≤ 200) : (x < nI 1 ∧ cl x n = 1) ∨ (¬ x < nI 1 ∧ nI n < x ∧ cl x n = n) ∨ (x = nI (cl x n) ∧ ¬ x < nI 1 ∧ ¬ nI n < x ∧ 1 ≤ cl x n ∧ cl x n ≤ n) := by
  by_cases a : x < nI 1
  · left; exact ⟨a, if_pos a⟩
  · by_cases b : nI n < x
    · right; left; exact ⟨a, b, by rw [cl, if_neg a, if_pos b]⟩
    · right; right
      have e1 : cl x n = x.toNatClampNeg := by rw [cl, if_neg a, if_neg b]
      have a' := a; have b' := b
      rw [Int32.lt_iff_toInt_lt, nI_toInt (by decide)] at a'
      rw [Int32.lt_iff_toInt_lt, nI_toInt (by omega)] at b'
      obtain ⟨j, hj, rfl⟩ := nI_of (x := x) (by rw [Int32.lt_iff_toInt_lt, Int32.toInt_zero]; omega)
      rw [nI_toInt hj] at a' b'
      rw [e1, nI_clamp hj]
      exact ⟨rfl, a, b, by omega, by omega⟩
theorem cl_in (x : Int32) {n : Nat} (h1 : 1 ≤ n) (h2 : n ≤ 200) : 1 ≤ cl x n ∧ cl x n ≤ n := by
  rcases cl_cases x h1 h2 with ⟨-, h⟩ | ⟨-, -, h⟩ | ⟨-, -, -, h, h'⟩ <;> omega
theorem cl_mm (x : Int32) {n : Nat} (h1 : 1 ≤ n) (h2 : n ≤ 200) : (if nI 1 < (if x < nI n then x else nI n) then (if x < nI n then x else nI n) else nI 1) = nI (cl x n) := by
  have hn : (nI n).toInt = n := nI_toInt (by omega)
  have h1' : (nI 1).toInt = 1 := nI_toInt (by decide)
  rcases cl_cases x h1 h2 with ⟨a, h⟩ | ⟨a, b, h⟩ | ⟨e, a, b, h, h'⟩
  · rw [h]
    have : ¬ nI 1 < (if x < nI n then x else nI n) := by
      rw [Int32.lt_iff_toInt_lt] at a ⊢
      split
      · omega
      · rename_i q; rw [Int32.lt_iff_toInt_lt] at q; omega
    rw [if_neg this]
  · rw [h]
    have e1 : (if x < nI n then x else nI n) = nI n := if_neg (by rw [Int32.lt_iff_toInt_lt] at b ⊢; omega)
    rw [e1]
    split
    · rfl
    · rename_i q; rw [nI_ltI (by decide) (by omega)] at q; rw [show n = 1 by omega]
  · have e1 : (if x < nI n then x else nI n) = x := by
      split
      · rfl
      · rename_i q
        rw [Int32.lt_iff_toInt_lt] at q b
        exact (Int32.toInt_inj.mp (by omega)).symm
    rw [e1]
    split
    · exact e
    · rename_i q
      rw [Int32.lt_iff_toInt_lt] at q a
      have : x = nI 1 := Int32.toInt_inj.mp (by omega)
      rw [← this]; exact e
set_option maxRecDepth 100000 in
set_option maxHeartbeats 4000000 in
theorem c_bring {l : Launch} {D : va_G} {ta : Nat → ClassId} {pl : Nat → Nat} {bs : Nat} {al : Ad} {C : Wo} (x : Int32) (n : Nat) (h1 : 1 ≤ n) (h2 : n ≤ 200) : GD l D ta pl bs yX4_bringWithin wsX4_bringWithin (rmF 1 16) [.int x, .int (nI n)] al C (some (.int (nI (cl x n)))) C := by
  refine GM.of (by decide) rfl (Nat.le_of_ble_eq_true rfl) ?_
  intro p e s m args below meth c X hnm
  refine g_lv (lv' := [(0, .int x), (1, .int (nI n))]) [0, 1] rfl ?_
  refine g_iconst X (v := nI 1) dX4_bringWithin_0 (by decide) ?_
  refine g_iload_n X 1 dX4_bringWithin_1 rfl rfl ?_
  refine g_iload_n X 0 dX4_bringWithin_2 rfl rfl ?_
  refine g_mmin X (by decide +kernel) (by decide +kernel) (by decide +kernel) (by decide +kernel) (by decide) (Nat.le_of_ble_eq_true rfl) ⟨Nat.zero_le _, Nat.zero_le _⟩ dX4_bringWithin_3 rfl ?_
  refine g_mmax X (by decide +kernel) (by decide +kernel) (by decide +kernel) (by decide +kernel) (by decide) (Nat.le_of_ble_eq_true rfl) ⟨Nat.zero_le _, Nat.zero_le _⟩ dX4_bringWithin_6 (cl_mm x h1 h2) ?_
  exact g_iret X rfl dX4_bringWithin_9 ⟨rfl, rfl, rfl⟩
set_option maxRecDepth 100000 in
set_option maxHeartbeats 4000000 in
theorem c_Item {l : Launch} {D : va_G} {ta : Nat → ClassId} {pl : Nat → Nat} {bs : Nat} {al : Ad} {C : Wo} (k i : Nat) (a b d : Int32) (he : C k i = some (.inr (3, [.int (nI 0), .int (nI 0), .int (nI 0), .null, .int (nI 0), .int (nI 0), .int (nI 0), .int (nI 0)]))) : GD l D ta pl bs yX2_init wsX2_init (rmF 1 12) [.ref (al k i), .int a, .int b, .int d] al C none (wup C k i (.inr (3, [.int a, .int b, .int d, .ref (pl 0), .int (nI 0), .int (nI 0), .int (nI 0), .int (nI 0)]))) := by
  refine GM.of (by decide) rfl (Nat.le_of_ble_eq_true rfl) ?_
  intro p e s m args below meth c X hnm
  have hiX2 : ∀ w ∈ u_ws RX2 TX2 8, w ∈ wsX2_init := by decide +kernel
  refine g_lv (lv' := [(0, .ref (al k i)), (1, .int a), (2, .int b), (3, .int d)]) [0, 1, 2, 3] rfl ?_
  refine g_aload_n X 0 dX2_init_0 rfl rfl ?_
  refine g_objInit X (by decide +kernel) (by decide +kernel) (by decide +kernel) dX2_init_1 (by decide) (Nat.le_of_ble_eq_true rfl) ?_
  refine g_aload_n X 0 dX2_init_4 rfl rfl ?_
  refine g_iload_n X 1 dX2_init_5 rfl rfl ?_
  refine g_putF X tyX2 tyX2_ok nmX2 k i he rfl 0 (by decide) hiX2 (by decide +kernel) rfl rfl hnm rfl (ty := .int) (by decide +kernel) rfl rfl (Nat.le_of_ble_eq_true rfl) _ rfl dX2_init_6 ?_
  refine g_aload_n X 0 dX2_init_9 rfl rfl ?_
  refine g_iload_n X 2 dX2_init_10 rfl rfl ?_
  refine g_putF X tyX2 tyX2_ok nmX2 k i wup_self rfl 1 (by decide) hiX2 (by decide +kernel) rfl rfl hnm rfl (ty := .int) (by decide +kernel) rfl rfl (Nat.le_of_ble_eq_true rfl) _ wup_wup dX2_init_11 ?_
  refine g_aload_n X 0 dX2_init_14 rfl rfl ?_
  refine g_iload_n X 3 dX2_init_15 rfl rfl ?_
  refine g_putF X tyX2 tyX2_ok nmX2 k i wup_self rfl 2 (by decide) hiX2 (by decide +kernel) rfl rfl hnm rfl (ty := .int) (by decide +kernel) rfl rfl (Nat.le_of_ble_eq_true rfl) _ wup_wup dX2_init_16 ?_
  refine g_aload_n X 0 dX2_init_19 rfl rfl ?_
  refine g_place X 0 (by decide) "WAITING" rfl (by decide +kernel) dX2_init_20 ?_
  refine g_put X tyX2 tyX2_ok nmX2 k i wup_self rfl 3 (by decide) hiX2 (by decide +kernel) rfl rfl (ty := .object "LoopSorter$Place") (by decide +kernel) rfl rfl (Nat.le_of_ble_eq_true rfl) _ wup_wup dX2_init_23 ?_
  exact g_vret X rfl dX2_init_26 ⟨rfl, rfl, rfl⟩
set_option maxRecDepth 100000 in
set_option maxHeartbeats 4000000 in
theorem c_Chute {l : Launch} {D : va_G} {ta : Nat → ClassId} {pl : Nat → Nat} {bs : Nat} {al : Ad} {C : Wo} (k i : Nat) (a : Int32) (b : Nat) (hb : b = 0 ∨ b = 1) (he : C k i = some (.inr (1, [.int (nI 0), .int (nI 0), .int (nI 0), .int (nI 0)]))) : GD l D ta pl bs yX0_init wsX0_init (rmF 1 12) [.ref (al k i), .int a, .int (nI b)] al C none (wup C k i (.inr (1, [.int a, .int (nI b), .int (nI 0), .int (nI 0)]))) := by
  refine GM.of (by decide) rfl (Nat.le_of_ble_eq_true rfl) ?_
  intro p e s m args below meth c X hnm
  have hiX0 : ∀ w ∈ u_ws RX0 TX0 4, w ∈ wsX0_init := by decide +kernel
  refine g_lv (lv' := [(0, .ref (al k i)), (1, .int a), (2, .int (nI b))]) [0, 1, 2] rfl ?_
  refine g_aload_n X 0 dX0_init_0 rfl rfl ?_
  refine g_objInit X (by decide +kernel) (by decide +kernel) (by decide +kernel) dX0_init_1 (by decide) (Nat.le_of_ble_eq_true rfl) ?_
  refine g_aload_n X 0 dX0_init_4 rfl rfl ?_
  refine g_iload_n X 1 dX0_init_5 rfl rfl ?_
  refine g_putF X tyX0 tyX0_ok nmX0 k i he rfl 0 (by decide) hiX0 (by decide +kernel) rfl rfl hnm rfl (ty := .int) (by decide +kernel) rfl rfl (Nat.le_of_ble_eq_true rfl) _ rfl dX0_init_6 ?_
  refine g_aload_n X 0 dX0_init_9 rfl rfl ?_
  refine g_iload_n X 2 dX0_init_10 rfl rfl ?_
  refine g_putF X tyX0 tyX0_ok nmX0 k i wup_self rfl 1 (by decide) hiX0 (by decide +kernel) rfl rfl hnm rfl (ty := .boolean) (by decide +kernel) (by rcases hb with rfl | rfl <;> decide) (by rcases hb with rfl | rfl <;> decide) (Nat.le_of_ble_eq_true rfl) _ wup_wup dX0_init_11 ?_
  exact g_vret X rfl dX0_init_14 ⟨rfl, rfl, rfl⟩
set_option maxRecDepth 100000 in
set_option maxHeartbeats 4000000 in
theorem c_Induct {l : Launch} {D : va_G} {ta : Nat → ClassId} {pl : Nat → Nat} {bs : Nat} {al : Ad} {C : Wo} (i : Nat) (a : Int32) (hno : C 4 i = none) (he : C 3 i = some (.inr (2, [.int (nI 0), .null, .int (nI 0), .long (lN 0), .int (nI 0)]))) : GM l D ta pl bs yX1_init wsX1_init { frames := 1, cells := 1, slots := 8, locals := 12 } 1 8 [.ref (al 3 i), .int a] al C (fun r al' C' => r = none ∧ ∃ q, al' = aup al 4 i q ∧ C' = wup (wup C 4 i (.inl (ta 0, 8, .inr (.inr (.inr (.inr (fun _ => none))))))) 3 i (.inr (2, [.int a, .ref (aup al 4 i q 4 i), .int (nI 0), .long (lN 0), .int (nI 0)]))) := by
  refine GM.of (by decide) rfl (Nat.le_of_ble_eq_true rfl) ?_
  intro p e s m args below meth c X hnm
  have hiX1 : ∀ w ∈ u_ws RX1 TX1 5, w ∈ wsX1_init := by decide +kernel
  refine g_lv (lv' := [(0, .ref (al 3 i)), (1, .int a)]) [0, 1] rfl ?_
  refine g_aload_n X 0 dX1_init_0 rfl rfl ?_
  refine g_objInit X (by decide +kernel) (by decide +kernel) (by decide +kernel) dX1_init_1 (by decide) (Nat.le_of_ble_eq_true rfl) ?_
  refine g_aload_n X 0 dX1_init_4 rfl rfl ?_
  refine g_iload_n X 1 dX1_init_5 rfl rfl ?_
  refine g_putF X tyX1 tyX1_ok nmX1 3 i he rfl 0 (by decide) hiX1 (by decide +kernel) rfl rfl hnm rfl (ty := .int) (by decide +kernel) rfl rfl (Nat.le_of_ble_eq_true rfl) _ rfl dX1_init_6 ?_
  refine g_aload_n X 0 dX1_init_9 rfl rfl ?_
  refine g_bipush X (v := nI 8) dX1_init_10 (by decide) ?_
  refine g_newq0 X 4 i (by rw [wup_ne (by omega)]; exact hno) (by decide +kernel) 8 (by decide) (by decide) (by decide) dX1_init_12 (fun q => ?_)
  refine g_putF X tyX1 tyX1_ok nmX1 3 i (fs := [.int a, .null, .int (nI 0), .long (lN 0), .int (nI 0)]) (by rw [wup_ne (by omega), wup_self]; rfl) rfl 1 (by decide) hiX1 (by decide +kernel) rfl rfl hnm rfl (ty := .array (.object "LoopSorter$Item")) (by decide +kernel) rfl rfl (Nat.le_of_ble_eq_true rfl) _ (wup_3 (by decide)) dX1_init_15 ?_
  exact g_vret X rfl dX1_init_18 ⟨rfl, q, rfl, rfl⟩
end
section
/-- a new item's numbers -/
def newI (u : St) (ln c n : Nat) : St := fun f i => if i = u 30 0 + 1 then (if f = 21 then ln else if f = 22 then c else if f = 23 ∨ f = 24 ∨ f = 25 ∨ f = 26 ∨ f = 27 then 0 else if f = 31 then n else u f i) else if f = 30 ∧ i = 0 then u 30 0 + 1 else u f i
theorem rI_aup {al : Ad} {m q x : Nat} (h : x ≠ m) : rI (aup al 9 m q) x = rI al x := by
  unfold rI
  by_cases h0 : x = 0
  · simp [h0]
  · simp [h0, aup, h]
theorem newI_k {u : St} {ln c n f i : Nat} (h : f ≠ 21 ∧ f ≠ 22 ∧ f ≠ 23 ∧ f ≠ 24 ∧ f ≠ 25 ∧ f ≠ 26 ∧ f ≠ 27 ∧ f ≠ 31 ∧ f ≠ 30) : newI u ln c n f i = u f i := by
  unfold newI
  by_cases hi : i = u 30 0 + 1 <;> simp [hi, h]
theorem newI_i {u : St} {ln c n f i : Nat} (h : i ≠ u 30 0 + 1) (h2 : f ≠ 30) : newI u ln c n f i = u f i := by
  unfold newI; simp [h, h2]
theorem new_item {Z : Wo} {ta : Nat → ClassId} {pl : Nat → Nat} {al : Ad} {u : St} {ln c n q : Nat} (hI : Iv u) : wup (mC Z ta pl al u) 9 (u 30 0 + 1) (.inr (3, [.int (nI (u 30 0 + 1)), .int (nI ln), .int (nI c), .ref (pl 0), .int (nI 0), .int (nI 0), .int (nI 0), .int (nI 0)])) = mC Z ta pl (aup al 9 (u 30 0 + 1) q) (newI u ln c n) := by
  obtain ⟨⟨h1, h2, h7, hN, h30, -, -⟩, -, hI3, -, hI5, hI6, hI7⟩ := hI
  funext k i
  by_cases hk : k = 9 ∧ i = u 30 0 + 1
  · obtain ⟨rfl, rfl⟩ := hk
    rw [wup_self]
    simp [mC, cC, newI]
  · rw [wup_ne hk]
    rcases (show k = 0 ∨ k = 1 ∨ k = 2 ∨ k = 3 ∨ k = 4 ∨ k = 5 ∨ k = 6 ∨ k = 7 ∨ k = 8 ∨ k = 9 ∨ 10 ≤ k by omega) with rfl | rfl | rfl | rfl | rfl | rfl | rfl | rfl | rfl | rfl | h10
    · simp [mC, cC, aup, newI_k]
    · have : ∀ j, rI (aup al 9 (u 30 0 + 1) q) (u 8 j) = rI al (u 8 j) := fun j => rI_aup (by have := (hI3 j).1; omega)
      simp [mC, cC, newI_k, this]
    · simp [mC, cC, aup]
    · simp [mC, cC, aup, newI_k]
    · by_cases h4 : 1 ≤ i ∧ i ≤ 4
      · have : ∀ j, rI (aup al 9 (u 30 0 + 1) q) (u (40 + i) j) = rI al (u (40 + i) j) := fun j => rI_aup (by have := (hI5 i h4.1 h4.2).2.1 j; omega)
        have e : ∀ j, newI u ln c n (40 + i) j = u (40 + i) j := fun j => newI_k (by omega)
        simp [mC, cC, h4, this, e]
      · simp [mC, cC, h4]
    · simp [mC, cC, aup]
    · simp [mC, cC, newI_k]
    · have : ∀ j, rI (aup al 9 (u 30 0 + 1) q) (u 9 j) = rI al (u 9 j) := fun j => rI_aup (by have := (hI6 j).1; omega)
      simp [mC, cC, newI_k, this]
    · have : ∀ j, rI (aup al 9 (u 30 0 + 1) q) (u 10 j) = rI al (u 10 j) := fun j => rI_aup (by have := (hI7 j).1; omega)
      simp [mC, cC, newI_k, this]
    · have hi : i ≠ u 30 0 + 1 := fun z => hk ⟨rfl, z⟩
      have e30 : newI u ln c n 30 0 = u 30 0 + 1 := by simp [newI]
      by_cases hd : 1 ≤ i ∧ i ≤ u 30 0
      · have hd2 : 1 ≤ i ∧ i ≤ u 30 0 + 1 := ⟨hd.1, by omega⟩
        simp [mC, cC, e30, hd, hd2, newI_i hi]
      · have hd2 : ¬ (1 ≤ i ∧ i ≤ u 30 0 + 1) := by omega
        simp only [mC, cC, e30, hd, hd2, if_false]
    · simp [mC, show ¬ k < 10 by omega]
def finI (u : St) (j i : Nat) : St := addL (st (st u 9 (u 2 0) i) 2 0 (st u 9 (u 2 0) i 2 0 + 1)) (j + 1) i
set_option maxRecDepth 100000 in
set_option maxHeartbeats 4000000 in
/-- induct from 72 on: the item has been made -/
theorem l_induct2 {l : Launch} {D : va_G} {ta : Nat → ClassId} {pl : Nat → Nat} {bs : Nat} {al : Ad} {Z : Wo} {p : Program} {e : Env} {s : State} {m : MethodId} {args : Array Value} {below : List Frame} {meth : Method} {c : Code} {u : St} {post : Option Value → Ad → Wo → Prop} (X : Cx D ta pl bs 5 p s m args meth c cX4_induct wsX4_induct RX4 (some .int)) (j i ln c0 : Nat) (hj : j < 4) (hi : 1 ≤ i ∧ i ≤ u 30 0) (hN : u 2 0 < 400) (h12 : u 12 (j + 1) < 8) (hp : post (some (.int (nI i))) al (mC Z ta pl al (finI u j i))) : WW D bs 5 p l e { frames := 2, cells := 1, slots := 8, locals := 41 } s m args below meth c (QQ D bs below args s 1 8 post) al (mC Z ta pl al u) 1 8 72 [(0, .ref (al 0 0)), (1, .int (nI j)), (2, .int (nI ln)), (3, .int (nI c0))] [.ref (al 9 i)] := by
  have hiX2 : ∀ w ∈ u_ws RX2 TX2 8, w ∈ wsX4_induct := by decide +kernel
  have hiX4 : ∀ w ∈ u_ws RX4 TX4 13, w ∈ wsX4_induct := by decide +kernel
  refine g_astore X [(4, .ref (al 9 i)), (0, .ref (al 0 0)), (1, .int (nI j)), (2, .int (nI ln)), (3, .int (nI c0))] dX4_induct_72 (by decide) rfl ?_
  refine g_aload_n X 1 dX4_induct_74 rfl rfl ?_
  refine g_get X 0 0 cx0 rfl 5 (by decide) hiX4 (by decide +kernel) rfl rfl dX4_induct_75 ?_
  refine g_aload_n X 1 dX4_induct_78 rfl rfl ?_
  refine g_get X 0 0 cx0 rfl 7 (by decide) hiX4 (by decide +kernel) rfl rfl dX4_induct_79 ?_
  refine g_aload X 0 dX4_induct_82 rfl ?_
  refine g_aast0 X 7 0 9 i cx7 (cx9 ⟨by omega, by omega⟩) (u 2 0) (by omega) (by omega) _ (upr (by omega) (up_items )) dX4_induct_84 ?_
  generalize hu_1 : st u 9 (u 2 0) i = u_1
  have k0u_1 : u_1 0 0 = u 0 0 := by rw [← hu_1]; first | rfl | exact st_nf (by omega)
  have k30u_1 : u_1 30 0 = u 30 0 := by rw [← hu_1]; first | rfl | exact st_nf (by omega)
  have k12u_1 : u_1 12 (j + 1) = u 12 (j + 1) := by rw [← hu_1]; first | rfl | exact st_nf (by omega)
  refine g_aload_n X 1 dX4_induct_85 rfl rfl ?_
  refine g_dup X dX4_induct_86 rfl ?_
  refine g_get X 0 0 cx0 rfl 7 (by decide) hiX4 (by decide +kernel) rfl rfl dX4_induct_87 ?_
  refine g_iconst X (v := nI 1) dX4_induct_90 (by decide) ?_
  refine g_iadd X dX4_induct_91 (nI_add _ _) ?_
  refine g_put X tyX4 tyX4_ok nmX4 0 0 cx0 rfl 7 (by decide) hiX4 (by decide +kernel) rfl rfl (ty := .int) (by decide +kernel) rfl rfl (Nat.le_of_ble_eq_true rfl) _ up_itemCount dX4_induct_92 ?_
  generalize hu_2 : st u_1 2 0 ((u_1 2 0) + 1) = u_2
  have k0u_2 : u_2 0 0 = u_1 0 0 := by rw [← hu_2]; first | rfl | exact st_nf (by omega)
  have k30u_2 : u_2 30 0 = u_1 30 0 := by rw [← hu_2]; first | rfl | exact st_nf (by omega)
  have k12u_2 : u_2 12 (j + 1) = u_1 12 (j + 1) := by rw [← hu_2]; first | rfl | exact st_nf (by omega)
  refine g_aload_n X 1 dX4_induct_95 rfl rfl ?_
  refine g_get X 0 0 cx0 rfl 3 (by decide) hiX4 (by decide +kernel) rfl rfl dX4_induct_96 ?_
  refine g_iload_n X 2 dX4_induct_99 rfl rfl ?_
  refine g_aald1 X 2 0 cx2 j (by omega) (by omega) (ar2 (by omega)) dX4_induct_100 ?_
  refine g_aload X 0 dX4_induct_101 rfl ?_
  refine g_callDV0 (n := 1) X 3 (j + 1) [.ref (al 9 i)] (cx3 ⟨by omega, by omega⟩) rfl (c_addLast (j + 1) i ⟨by omega, by omega⟩ (by omega) ⟨by omega, by omega⟩) gX4_induct_X1_addLast rfl ⟨rfl, rfl⟩ (by decide +kernel) ⟨by decide, by decide⟩ rfl (Nat.le_of_ble_eq_true rfl) dX4_induct_103 ⟨by decide, by decide⟩ _ rfl ?_
  generalize hu_3 : addL u_2 (j + 1) i = u_3
  have k0u_3 : u_3 0 0 = u_2 0 0 := by rw [← hu_3]; exact addL_k (by decide) (by omega)
  have k30u_3 : u_3 30 0 = u_2 30 0 := by rw [← hu_3]; exact addL_k (by decide) (by omega)
  refine g_aload X 0 dX4_induct_106 rfl ?_
  refine g_get X 9 i (cx9 ⟨by omega, by omega⟩) rfl 0 (by decide) hiX2 (by decide +kernel) rfl rfl dX4_induct_108 ?_
  exact g_iret X rfl dX4_induct_111 (by subst hu_1; subst hu_2; subst hu_3; exact hp)
set_option maxRecDepth 100000 in
set_option maxHeartbeats 4000000 in
/-- induct: an item is made -/
theorem c_induct_1 {l : Launch} {D : va_G} {ta : Nat → ClassId} {pl : Nat → Nat} {bs : Nat} {al : Ad} {Z : Wo} {u : St} (j ln c0 : Nat) (hI : Iv u) (hj : j < 4) (hl : 1 ≤ ln ∧ ln ≤ 2) (hc : c0 < 16) (hr : u 2 0 < 400) (h12 : u 12 (j + 1) < 8) : GM l D ta pl bs yX4_induct wsX4_induct { frames := 2, cells := 1, slots := 8, locals := 41 } 1 8 [.ref (al 0 0), .int (nI j), .int (nI ln), .int (nI c0)] al (mC Z ta pl al u) (fun r al' C' => r = some (.int (nI (u 2 0 + 1))) ∧ ∃ q, al' = aup al 9 (u 30 0 + 1) q ∧ C' = mC Z ta pl al' (finI (newI u ln c0 (j + 1)) j (u 30 0 + 1))) := by
  refine GM.of (by decide) rfl (Nat.le_of_ble_eq_true rfl) ?_
  intro p e s m args below meth c X hnm
  have hiX2 : ∀ w ∈ u_ws RX2 TX2 8, w ∈ wsX4_induct := by decide +kernel
  have hiX4 : ∀ w ∈ u_ws RX4 TX4 13, w ∈ wsX4_induct := by decide +kernel
  obtain ⟨⟨h1, h2, h7, hN, h30, -, -⟩, -⟩ := id hI
  refine g_lv (lv' := [(0, .ref (al 0 0)), (1, .int (nI j)), (2, .int (nI ln)), (3, .int (nI c0))]) [0, 1, 2, 3] rfl ?_
  refine g_iload_n X 1 dX4_induct_0 rfl rfl ?_
  refine g_callDS1 (n := 1) X [.int (nI j)] (c_isInduct ((nI j))) gX4_induct_X4_isInduct rfl ⟨rfl, rfl⟩ (by decide +kernel) ⟨by decide, by decide⟩ rfl (Nat.le_of_ble_eq_true rfl) dX4_induct_1 ⟨by decide, by decide⟩ _ rfl ?_
  refine g_if_eq X 14 dX4_induct_4 (by decide) (bN_eq0) (fun c_1 => ?_) (fun c_1 => ?_)
  · exact absurd (inR_nI hj (by decide)) c_1
  · have c_1 := Decidable.of_not_not c_1
    refine g_iload_n X 3 dX4_induct_7 rfl rfl ?_
    refine g_callDS1 (n := 1) X [.int (nI c0)] (c_isChute ((nI c0))) gX4_induct_X4_isChute rfl ⟨rfl, rfl⟩ (by decide +kernel) ⟨by decide, by decide⟩ rfl (Nat.le_of_ble_eq_true rfl) dX4_induct_8 ⟨by decide, by decide⟩ _ rfl ?_
    refine g_if_ne X 17 dX4_induct_11 (by decide) (bN_eq0) (fun c_2 => ?_) (fun c_2 => ?_)
    · have c_2 := Decidable.of_not_not c_2
      refine g_iload_n X 2 dX4_induct_17 rfl rfl ?_
      refine g_iconst X (v := nI 1) dX4_induct_18 (by decide) ?_
      refine g_icmp_lt X 27 dX4_induct_19 (by decide) (nI_ltI (by omega) (by omega)) (fun c_3 => ?_) (fun c_3 => ?_)
      · exact absurd c_3 (by omega)
      · refine g_iload_n X 2 dX4_induct_22 rfl rfl ?_
        refine g_iconst X (v := nI 2) dX4_induct_23 (by decide) ?_
        refine g_icmp_le X 30 dX4_induct_24 (by decide) (nI_leI (by omega) (by omega)) (fun c_4 => ?_) (fun c_4 => ?_)
        · refine g_aload_n X 0 dX4_induct_30 rfl rfl ?_
          refine g_get X 0 0 cx0 rfl 7 (by decide) hiX4 (by decide +kernel) rfl rfl dX4_induct_31 ?_
          refine g_sipush X (v := nI 400) dX4_induct_34 (by decide) ?_
          refine g_icmp_lt X 43 dX4_induct_37 (by decide) (nI_ltI (by omega) (by omega)) (fun c_5 => ?_) (fun c_5 => ?_)
          · refine g_aload_n X 0 dX4_induct_43 rfl rfl ?_
            refine g_get X 0 0 cx0 rfl 3 (by decide) hiX4 (by decide +kernel) rfl rfl dX4_induct_44 ?_
            refine g_iload_n X 1 dX4_induct_47 rfl rfl ?_
            refine g_aald1 X 2 0 cx2 j (by omega) (by omega) (ar2 (by omega)) dX4_induct_48 ?_
            refine g_callDV1 (n := 0) X 3 (j + 1) [] (cx3 ⟨by omega, by omega⟩) rfl (c_isRowFull (j + 1) ⟨by omega, by omega⟩ (by omega)) gX4_induct_X1_isRowFull rfl ⟨rfl, rfl⟩ (by decide +kernel) ⟨by decide, by decide⟩ rfl (Nat.le_of_ble_eq_true rfl) dX4_induct_49 ⟨by decide, by decide⟩ _ rfl ?_
            refine g_if_eq X 57 dX4_induct_52 (by decide) (bN_eq0) (fun c_6 => ?_) (fun c_6 => ?_)
            · refine g_new (N := 8) (ci := 3) X 9 (u 30 0 + 1) (by show (if 1 ≤ u 30 0 + 1 ∧ u 30 0 + 1 ≤ u 30 0 then some _ else none) = none; rw [if_neg (by omega)]) tyX2 tyX2_ok rfl hiX2 (by decide +kernel) (by decide +kernel) (by decide +kernel) [.int (nI 0), .int (nI 0), .int (nI 0), .null, .int (nI 0), .int (nI 0), .int (nI 0), .int (nI 0)] (fun j hj => by rcases (show j = 0 ∨ j = 1 ∨ j = 2 ∨ j = 3 ∨ j = 4 ∨ j = 5 ∨ j = 6 ∨ j = 7 by omega) with rfl | rfl | rfl | rfl | rfl | rfl | rfl | rfl <;> rfl) (by decide) (by decide) dX4_induct_57 (fun q => ?_)
              refine g_dup X dX4_induct_60 rfl ?_
              refine g_aload_n X 0 dX4_induct_61 rfl rfl ?_
              refine g_get X 0 0 (by rw [wup_ne (by omega)]; exact cx0) rfl 7 (by decide) hiX4 (by decide +kernel) rfl rfl dX4_induct_62 ?_
              refine g_iconst X (v := nI 1) dX4_induct_65 (by decide) ?_
              refine g_iadd X dX4_induct_66 (nI_add _ _) ?_
              refine g_iload_n X 2 dX4_induct_67 rfl rfl ?_
              refine g_iload_n X 3 dX4_induct_68 rfl rfl ?_
              refine g_callI (n := 3) X (aup al 9 (u 30 0 + 1) q 9 (u 30 0 + 1)) [.int (nI (u 2 0 + 1)), .int (nI ln), .int (nI c0)] (c_Item 9 (u 30 0 + 1) _ _ _ wup_self) ggX4_induct_X2_init rfl rfl rfl (by decide +kernel) (by decide +kernel) (by decide +kernel) rfl (by decide +kernel) ⟨by decide, by decide⟩ rfl (Nat.le_of_ble_eq_true rfl) dX4_induct_69 ⟨by decide, by decide⟩ _ rfl (fun rv al2 C2 h9 => ?_)
              obtain ⟨rfl, rfl, rfl⟩ := h9
              refine g_wo (C1 := mC Z ta pl (aup al 9 (u 30 0 + 1) q) (newI u ln c0 (j + 1))) (by rw [wup_wup, ← h30]; exact new_item (ln := ln) (c := c0) (n := j + 1) (q := q) hI) ?_
              refine g_lv (lv' := [(0, .ref (aup al 9 (u 30 0 + 1) q 0 0)), (1, .int (nI j)), (2, .int (nI ln)), (3, .int (nI c0))]) [0, 1, 2, 3] rfl ?_
              have e30 : newI u ln c0 (j + 1) 30 0 = u 30 0 + 1 := by simp [newI]
              have e2 : newI u ln c0 (j + 1) 2 0 = u 2 0 := newI_k (by omega)
              have e12 : newI u ln c0 (j + 1) 12 (j + 1) = u 12 (j + 1) := newI_k (by omega)
              exact l_induct2 (u := newI u ln c0 (j + 1)) X j (u 30 0 + 1) ln c0 hj ⟨by omega, by omega⟩ (by omega) (by omega) ⟨by rw [h30], q, rfl, rfl⟩
            · have c_6 := Decidable.of_not_not c_6
              exact absurd c_6 (by omega)
          · exact absurd (by omega) c_5
        · exact absurd (by omega) c_4
    · exact absurd (inR_nI hc (by decide)) c_2
end
section
def u0 (T M : Nat) : St := fun f i => if i = 0 then (if f = 0 then T else if f = 1 then M else if f = 5 then 1 else 0) else 0
/-- the class' cells while its constructor runs: ni inducts and nc chutes have been made -/
def bW (C : Wo) (ta : Nat → ClassId) (al : Ad) (T M ni nc : Nat) (hc : Bool) : Wo := fun k i =>
  if k = 0 ∧ i = 0 then some (.inr (4, [.int (nI T), .int (nI M), .ref (al 1 0), .ref (al 2 0), (if hc = true then .ref (al 5 0) else .null), .ref (al 7 0), .ref (al 8 0), .int (nI 0), .int (nI 0), .int (nI 0), .int (nI 1), .int (nI 0), .int (nI 0)]))
  else if k = 1 ∧ i = 0 then some (.inl (ta 0, T, .inr (.inr (.inr (.inr (fun _ => none))))))
  else if k = 7 ∧ i = 0 then some (.inl (ta 0, 400, .inr (.inr (.inr (.inr (fun _ => none))))))
  else if k = 8 ∧ i = 0 then some (.inl (ta 0, 400, .inr (.inr (.inr (.inr (fun _ => none))))))
  else if k = 2 ∧ i = 0 then some (.inl (ta 1, 4, .inr (.inr (.inr (.inr (fun j => if j < ni then some (al 3 (j + 1)) else none))))))
  else if k = 3 ∧ 1 ≤ i ∧ i ≤ ni then some (.inr (2, [.int (nI ((i - 1) * T / 4)), .ref (al 4 i), .int (nI 0), .long (lN 0), .int (nI 0)]))
  else if k = 4 ∧ 1 ≤ i ∧ i ≤ ni then some (.inl (ta 0, 8, .inr (.inr (.inr (.inr (fun _ => none))))))
  else if k = 5 ∧ i = 0 ∧ hc = true then some (.inl (ta 2, 16, .inr (.inr (.inr (.inr (fun j => if j < nc then some (al 6 j) else none))))))
  else if k = 6 ∧ i < nc then some (.inr (1, [.int (nI ((i * T + T / 2) / 16)), .int (nI (bN (i = 15))), .int (nI 0), .int (nI 0)]))
  else C k i
theorem bW_end {C : Wo} {ta : Nat → ClassId} {pl : Nat → Nat} {al : Ad} {T M : Nat} (hC : ∀ k i, k < 10 → ¬ (k = 0 ∧ i = 0) → C k i = none) : bW C ta al T M 4 16 true = mC C ta pl al (u0 T M) := by
  funext k i
  rcases (show k = 0 ∨ k = 1 ∨ k = 2 ∨ k = 3 ∨ k = 4 ∨ k = 5 ∨ k = 6 ∨ k = 7 ∨ k = 8 ∨ k = 9 ∨ 10 ≤ k by omega) with rfl | rfl | rfl | rfl | rfl | rfl | rfl | rfl | rfl | rfl | h10
  · by_cases h : i = 0
    · simp [bW, mC, cC, u0, h]
    · simp [bW, mC, cC, h, hC 0 i (by decide) (fun z => h z.2)]
  · by_cases h : i = 0
    · simp [bW, mC, cC, u0, rI, h]
    · simp [bW, mC, cC, h, hC 1 i (by decide) (by omega)]
  · by_cases h : i = 0
    · simp [bW, mC, cC, h]
    · simp [bW, mC, cC, h, hC 2 i (by decide) (by omega)]
  · by_cases h : 1 ≤ i ∧ i ≤ 4
    · simp [bW, mC, cC, u0, h, show ¬ i = 0 by omega]
    · simp [bW, mC, cC, h, hC 3 i (by decide) (by omega)]
  · by_cases h : 1 ≤ i ∧ i ≤ 4
    · simp [bW, mC, cC, u0, rI, h, show ¬ 40 + i = 0 by omega, show ¬ 40 + i = 1 by omega, show ¬ 40 + i = 5 by omega]
    · simp [bW, mC, cC, h, hC 4 i (by decide) (by omega)]
  · by_cases h : i = 0
    · simp [bW, mC, cC, h]
    · simp [bW, mC, cC, h, hC 5 i (by decide) (by omega)]
  · by_cases h : i < 16
    · simp [bW, mC, cC, u0, h]
    · simp [bW, mC, cC, h, hC 6 i (by decide) (by omega)]
  · by_cases h : i = 0
    · simp [bW, mC, cC, u0, rI, h]
    · simp [bW, mC, cC, h, hC 7 i (by decide) (by omega)]
  · by_cases h : i = 0
    · simp [bW, mC, cC, u0, rI, h]
    · simp [bW, mC, cC, h, hC 8 i (by decide) (by omega)]
  · have h : ¬ (1 ≤ i ∧ i ≤ u0 T M 30 0) := by simp [u0]; omega
    simp only [mC, cC, h, if_false]
    simp [bW, hC 9 i (by decide) (by omega)]
  · simp [bW, mC, show ¬ k < 10 by omega, show ¬ k = 0 by omega, show ¬ k = 1 by omega, show ¬ k = 2 by omega, show ¬ k = 3 by omega, show ¬ k = 4 by omega, show ¬ k = 5 by omega, show ¬ k = 6 by omega, show ¬ k = 7 by omega, show ¬ k = 8 by omega]
theorem bW_ind {C : Wo} {ta : Nat → ClassId} {al : Ad} {T M n q1 q2 : Nat} {e0 : va_E} :
    wup (wup (wup (wup (bW C ta al T M n 0 false) 3 (n + 1) e0) 4 (n + 1) (.inl (ta 0, 8, .inr (.inr (.inr (.inr (fun _ => none))))))) 3 (n + 1) (.inr (2, [.int (nI (n * T / 4)), .ref (aup (aup al 3 (n + 1) q1) 4 (n + 1) q2 4 (n + 1)), .int (nI 0), .long (lN 0), .int (nI 0)]))) 2 0 (.inl (ta 1, 4, .inr (.inr (.inr (.inr (va_up (fun j => if j < n then some (al 3 (j + 1)) else none) n (some (aup (aup al 3 (n + 1) q1) 4 (n + 1) q2 3 (n + 1))))))))) = bW C ta (aup (aup al 3 (n + 1) q1) 4 (n + 1) q2) T M (n + 1) 0 false := by
  funext k i
  by_cases h2 : k = 2 ∧ i = 0
  · obtain ⟨rfl, rfl⟩ := h2
    rw [wup_self]
    simp only [bW]
    simp only [show ¬ (2 = 0 ∧ 0 = 0) by omega, show ¬ (2 = 1 ∧ 0 = 0) by omega, show ¬ (2 = 7 ∧ 0 = 0) by omega, show ¬ (2 = 8 ∧ 0 = 0) by omega, if_false, and_self, if_true]
    congr 8
    funext j
    by_cases hj : j = n
    · subst hj; simp [va_up]
    · by_cases hl : j < n
      · simp [va_up, hj, hl, show j < n + 1 by omega, aup]
      · simp [va_up, hj, hl, show ¬ j < n + 1 by omega]
  · rw [wup_ne h2]
    by_cases h3 : k = 3 ∧ i = n + 1
    · obtain ⟨rfl, rfl⟩ := h3
      rw [wup_self]
      simp [bW]
    · rw [wup_ne h3]
      by_cases h4 : k = 4 ∧ i = n + 1
      · obtain ⟨rfl, rfl⟩ := h4
        rw [wup_self]
        simp [bW]
      · rw [wup_ne h4, wup_ne h3]
        unfold bW
        by_cases k0 : k = 0 ∧ i = 0
        · simp [k0, aup]
        · by_cases k3 : k = 3
          · subst k3
            have e1 : (1 ≤ i ∧ i ≤ n + 1) ↔ (1 ≤ i ∧ i ≤ n) := by omega
            simp only [e1]
            by_cases hr : 1 ≤ i ∧ i ≤ n
            · simp [hr, aup, show ¬ i = n + 1 by omega]
            · simp [hr]
          · by_cases k4 : k = 4
            · subst k4
              have e1 : (1 ≤ i ∧ i ≤ n + 1) ↔ (1 ≤ i ∧ i ≤ n) := by omega
              simp only [e1]
              by_cases hr : 1 ≤ i ∧ i ≤ n <;> simp [hr]
            · simp [k0, k3, k4, h2]
theorem bW_chu {C : Wo} {ta : Nat → ClassId} {al : Ad} {T M n q1 : Nat} {e0 : va_E} :
    wup (wup (wup (bW C ta al T M 4 n true) 6 n e0) 6 n (.inr (1, [.int (nI ((n * T + T / 2) / 16)), .int (nI (bN (n = 15))), .int (nI 0), .int (nI 0)]))) 5 0 (.inl (ta 2, 16, .inr (.inr (.inr (.inr (va_up (fun j => if j < n then some (al 6 j) else none) n (some (aup al 6 n q1 6 n)))))))) = bW C ta (aup al 6 n q1) T M 4 (n + 1) true := by
  funext k i
  by_cases h2 : k = 5 ∧ i = 0
  · obtain ⟨rfl, rfl⟩ := h2
    rw [wup_self]
    simp only [bW]
    simp only [show ¬ (5 = 0 ∧ 0 = 0) by omega, show ¬ (5 = 1 ∧ 0 = 0) by omega, show ¬ (5 = 7 ∧ 0 = 0) by omega, show ¬ (5 = 8 ∧ 0 = 0) by omega, show ¬ (5 = 2 ∧ 0 = 0) by omega, show ¬ (5 = 3 ∧ 1 ≤ 0 ∧ 0 ≤ 4) by omega, show ¬ (5 = 4 ∧ 1 ≤ 0 ∧ 0 ≤ 4) by omega, if_false, and_self, if_true]
    congr 8
    funext j
    by_cases hj : j = n
    · subst hj; simp [va_up]
    · by_cases hl : j < n
      · simp [va_up, hj, hl, show j < n + 1 by omega, aup]
      · simp [va_up, hj, hl, show ¬ j < n + 1 by omega]
  · rw [wup_ne h2, wup_wup]
    by_cases h3 : k = 6 ∧ i = n
    · obtain ⟨rfl, rfl⟩ := h3
      rw [wup_self]
      simp [bW]
    · rw [wup_ne h3]
      unfold bW
      by_cases k0 : k = 0 ∧ i = 0
      · simp [k0, aup]
      · by_cases k6 : k = 6
        · subst k6
          have e1 : i < n + 1 ↔ i < n := by omega
          simp [e1]
        · by_cases k5 : k = 5
          · subst k5
            have : ¬ i = 0 := fun z => h2 ⟨rfl, z⟩
            simp [this]
          · simp [k0, k6, k5, aup]
set_option maxRecDepth 100000 in
set_option maxHeartbeats 4000000 in
theorem l_init2 {l : Launch} {D : va_G} {ta : Nat → ClassId} {pl : Nat → Nat} {bs : Nat} {C : Wo} {p : Program} {e : Env} {s : State} {m : MethodId} {args : Array Value} {below : List Frame} {meth : Method} {c : Code} (X : Cx D ta pl bs 4 p s m args meth c cX4_init wsX4_init RX4 none) {T M a0 : Nat} {ak : Ad} (hT : 1 ≤ T) (hT2 : T ≤ 200) (hC : ∀ k i, k < 10 → ¬ (k = 0 ∧ i = 0) → C k i = none) : ∀ (n9 i : Nat) (al : Ad), i ≤ 16 → 16 + 1 ≤ i + n9 → al 0 0 = a0 → (∀ k j, 10 ≤ k → al k j = ak k j) → WW D bs 4 p l e { frames := 2, cells := 29, slots := 1136, locals := 40 } s m args below meth c (QQ D bs below args s 29 1136 (fun r al' C' => r = none ∧ al' 0 0 = a0 ∧ (∀ k i, 10 ≤ k → al' k i = ak k i) ∧ C' = mC C ta pl al' (u0 T M))) al (bW C ta al T M 4 i true) (13 + i) (1072 + 4 * i) 114 [(3, .int (nI i)), (0, .ref (al 0 0))] [] := by
  have hiX4 : ∀ w ∈ u_ws RX4 TX4 13, w ∈ wsX4_init := by decide +kernel
  have hiX0 : ∀ w ∈ u_ws RX0 TX0 4, w ∈ wsX4_init := by decide +kernel
  intro n9
  induction n9 with
  | zero => intro i al h8 h9; exact absurd h9 (by omega)
  | succ n9 ih =>
    intro i al h8 h9 h00 hak
    refine g_iload_n X 0 dX4_init_114 rfl rfl ?_
    refine g_bipush X (v := nI 16) dX4_init_115 (by decide) ?_
    refine g_icmp_ge X 166 dX4_init_117 (by decide) (nI_leI (by omega) (by omega)) (fun c_1 => ?_) (fun c_1 => ?_)
    · have e9 : i = 16 := by omega
      subst e9
      refine g_wo (bW_end (pl := pl) hC) ?_
      exact g_vret X rfl dX4_init_166 ⟨rfl, h00, hak, rfl⟩
    · have hm9 : i * T ≤ 15 * T := Nat.mul_le_mul_right _ (by omega)
      refine g_aload_n X 1 dX4_init_120 rfl rfl ?_
      refine g_get X 0 0 (ci := 4) rfl rfl 4 (by decide) hiX4 (by decide +kernel) rfl rfl dX4_init_121 ?_
      refine g_iload_n X 0 dX4_init_124 rfl rfl ?_
      refine g_new (N := 4) (ci := 1) X 6 i (by simp [bW, hC 6 i (by decide) (by omega)]) tyX0 tyX0_ok rfl hiX0 (by decide +kernel) (by decide +kernel) (by decide +kernel) [.int (nI 0), .int (nI 0), .int (nI 0), .int (nI 0)] (fun j hj => by rcases (show j = 0 ∨ j = 1 ∨ j = 2 ∨ j = 3 by omega) with rfl | rfl | rfl | rfl <;> rfl) (by show _ ≤ 29; omega) (by show _ ≤ 1136; omega) dX4_init_125 (fun q => ?_)
      refine g_dup X dX4_init_128 rfl ?_
      refine g_iload_n X 0 dX4_init_129 rfl rfl ?_
      refine g_aload_n X 1 dX4_init_130 rfl rfl ?_
      refine g_get X 0 0 (ci := 4) (by rw [wup_ne (by omega)]; rfl) rfl 0 (by decide) hiX4 (by decide +kernel) rfl rfl dX4_init_131 ?_
      refine g_imul X dX4_init_134 (pk_mul _ _) ?_
      refine g_aload_n X 1 dX4_init_135 rfl rfl ?_
      refine g_get X 0 0 (ci := 4) (by rw [wup_ne (by omega)]; rfl) rfl 0 (by decide) hiX4 (by decide +kernel) rfl rfl dX4_init_136 ?_
      refine g_iconst X (v := nI 2) dX4_init_139 (by decide) ?_
      refine g_idiv X dX4_init_140 (nI_ne0 (by omega) (by omega)) (pk_div (by omega) (by omega) (by omega)) ?_
      refine g_iadd X dX4_init_141 (nI_add _ _) ?_
      refine g_bipush X (v := nI 16) dX4_init_142 (by decide) ?_
      refine g_idiv X dX4_init_144 (nI_ne0 (by omega) (by omega)) (pk_div (by omega) (by omega) (by omega)) ?_
      refine g_iload_n X 0 dX4_init_145 rfl rfl ?_
      refine g_bipush X (v := nI 15) dX4_init_146 (by decide) ?_
      have key : WW D bs 4 p l e { frames := 2, cells := 29, slots := 1136, locals := 40 } s m args below meth c (QQ D bs below args s 29 1136 (fun r al' C' => r = none ∧ al' 0 0 = a0 ∧ (∀ k i, 10 ≤ k → al' k i = ak k i) ∧ C' = mC C ta pl al' (u0 T M))) (aup al 6 i q) (wup (bW C ta al T M 4 i true) 6 i (.inr (1, [.int (nI 0), .int (nI 0), .int (nI 0), .int (nI 0)]))) (13 + i + 1) (1072 + 4 * i + 4) 156 [(3, .int (nI i)), (0, .ref (al 0 0))] [.int (nI (bN (i = 15))), .int (nI ((i * T + T / 2) / 16)), .ref (aup al 6 i q 6 i), .ref (aup al 6 i q 6 i), .int (nI i), .ref (al 5 0)] := by
        refine g_callI (n := 2) X (aup al 6 i q 6 i) [.int (nI ((i * T + T / 2) / 16)), .int (nI (bN (i = 15)))] (c_Chute 6 i _ _ (by unfold bN; split <;> omega) wup_self) ggX4_init_X0_init rfl rfl rfl (by decide +kernel) (by decide +kernel) (by decide +kernel) rfl (by decide +kernel) ⟨by decide, by decide⟩ rfl (Nat.le_of_ble_eq_true rfl) dX4_init_156 ⟨by show _ ≤ 29; omega, by show _ ≤ 1136; omega⟩ _ rfl (fun rv al2 C2 h7 => ?_)
        obtain ⟨rfl, rfl, rfl⟩ := h7
        refine g_aast2 X 5 0 6 i (f := fun j => if j < i then some (al 6 j) else none) (by rw [wup_ne (by omega), wup_ne (by omega)]; rfl) wup_self i (by omega) (by decide) _ bW_chu dX4_init_159 ?_
        refine g_iinc X 0 [(3, .int (nI (i + 1))), (0, .ref (al 0 0))] dX4_init_160 rfl (nI_inc (by decide)) (by decide) rfl ?_
        refine g_goto X 114 dX4_init_163 (by decide) ?_
        refine g_widen (k := 13 + (i + 1)) (n := 1072 + 4 * (i + 1)) (by omega) (by omega) ?_
        exact ih (i + 1) (aup al 6 i q) (by omega) (by omega) h00 (fun k j hk => by rw [aup_ne (by omega)]; exact hak k j hk)
      refine g_icmp_ne X 155 dX4_init_148 (by decide) (nI_eq (by omega) (by omega)) (fun c_2 => ?_) (fun c_2 => ?_)
      · refine g_iconst X (v := nI 0) dX4_init_155 (by decide) ?_
        have e8 : bN (i = 15) = 0 := by simp [bN, c_2]
        rw [e8] at key
        exact key
      · refine g_iconst X (v := nI 1) dX4_init_151 (by decide) ?_
        refine g_goto X 156 dX4_init_152 (by decide) ?_
        have e8 : bN (i = 15) = 1 := by simp [bN, c_2]
        rw [e8] at key
        exact key
set_option maxRecDepth 100000 in
set_option maxHeartbeats 4000000 in
theorem l_init1 {l : Launch} {D : va_G} {ta : Nat → ClassId} {pl : Nat → Nat} {bs : Nat} {C : Wo} {p : Program} {e : Env} {s : State} {m : MethodId} {args : Array Value} {below : List Frame} {meth : Method} {c : Code} (X : Cx D ta pl bs 4 p s m args meth c cX4_init wsX4_init RX4 none) (hnm : meth.name = "<init>") {T M a0 : Nat} {ak : Ad} (hT : 1 ≤ T) (hT2 : T ≤ 200) (hC : ∀ k i, k < 10 → ¬ (k = 0 ∧ i = 0) → C k i = none) : ∀ (n9 i : Nat) (al : Ad), i ≤ 4 → 4 + 1 ≤ i + n9 → al 0 0 = a0 → (∀ k j, 10 ≤ k → al k j = ak k j) → WW D bs 4 p l e { frames := 2, cells := 29, slots := 1136, locals := 40 } s m args below meth c (QQ D bs below args s 29 1136 (fun r al' C' => r = none ∧ al' 0 0 = a0 ∧ (∀ k i, 10 ≤ k → al' k i = ak k i) ∧ C' = mC C ta pl al' (u0 T M))) al (bW C ta al T M i 0 false) (4 + 2 * i) (1004 + 13 * i) 71 [(3, .int (nI i)), (0, .ref (al 0 0))] [] := by
  have hiX4 : ∀ w ∈ u_ws RX4 TX4 13, w ∈ wsX4_init := by decide +kernel
  have hiX1 : ∀ w ∈ u_ws RX1 TX1 5, w ∈ wsX4_init := by decide +kernel
  intro n9
  induction n9 with
  | zero => intro i al h8 h9; exact absurd h9 (by omega)
  | succ n9 ih =>
    intro i al h8 h9 h00 hak
    refine g_iload_n X 0 dX4_init_71 rfl rfl ?_
    refine g_iconst X (v := nI 4) dX4_init_72 (by decide) ?_
    refine g_icmp_ge X 103 dX4_init_73 (by decide) (nI_leI (by omega) (by omega)) (fun c_1 => ?_) (fun c_1 => ?_)
    · have e9 : i = 4 := by omega
      subst e9
      refine g_aload_n X 1 dX4_init_103 rfl rfl ?_
      refine g_bipush X (v := nI 16) dX4_init_104 (by decide) ?_
      refine g_newq2 X 5 0 (by simp [bW, hC 5 0 (by decide) (by omega)]) (by decide +kernel) 16 (by decide) (by decide) (by decide) dX4_init_106 (fun q => ?_)
      refine g_putF X tyX4 tyX4_ok nmX4 0 0 (by rw [wup_ne (by omega)]; rfl) rfl 4 (by decide) hiX4 (by decide +kernel) rfl rfl hnm rfl (ty := .array (.object "LoopSorter$Chute")) (by decide +kernel) rfl rfl (Nat.le_of_ble_eq_true rfl) (bW C ta (aup al 5 0 q) T M 4 0 true) ?_ dX4_init_109 ?_
      · funext k j
        by_cases k0 : k = 0 ∧ j = 0
        · obtain ⟨rfl, rfl⟩ := k0
          rw [wup_self]; simp [bW, aup]
        · rw [wup_ne k0]
          by_cases k5 : k = 5 ∧ j = 0
          · obtain ⟨rfl, rfl⟩ := k5
            rw [wup_self]; simp [bW]
          · rw [wup_ne k5]
            unfold bW
            by_cases k55 : k = 5
            · subst k55
              have : ¬ j = 0 := fun z => k5 ⟨rfl, z⟩
              simp [this]
            · simp [k0, k55, aup]
      refine g_iconst X (v := nI 0) dX4_init_112 (by decide) ?_
      refine g_istore_n X [(3, .int (nI 0)), (0, .ref (al 0 0))] dX4_init_113 rfl (by decide) rfl ?_
      exact l_init2 X hT hT2 hC 17 0 (aup al 5 0 q) (Nat.zero_le _) (Nat.le_refl _) h00 (fun k j hk => by rw [aup_ne (by omega)]; exact hak k j hk)
    · have hm9 : i * T ≤ 3 * T := Nat.mul_le_mul_right _ (by omega)
      refine g_aload_n X 1 dX4_init_76 rfl rfl ?_
      refine g_get X 0 0 (ci := 4) rfl rfl 3 (by decide) hiX4 (by decide +kernel) rfl rfl dX4_init_77 ?_
      refine g_iload_n X 0 dX4_init_80 rfl rfl ?_
      refine g_new (N := 5) (ci := 2) X 3 (i + 1) (by simp [bW, hC 3 (i + 1) (by decide) (by omega)]) tyX1 tyX1_ok rfl hiX1 (by decide +kernel) (by decide +kernel) (by decide +kernel) [.int (nI 0), .null, .int (nI 0), .long (lN 0), .int (nI 0)] (fun j hj => by rcases (show j = 0 ∨ j = 1 ∨ j = 2 ∨ j = 3 ∨ j = 4 by omega) with rfl | rfl | rfl | rfl | rfl <;> rfl) (by show _ ≤ 29; omega) (by show _ ≤ 1136; omega) dX4_init_81 (fun q => ?_)
      refine g_dup X dX4_init_84 rfl ?_
      refine g_iload_n X 0 dX4_init_85 rfl rfl ?_
      refine g_aload_n X 1 dX4_init_86 rfl rfl ?_
      refine g_get X 0 0 (ci := 4) (by rw [wup_ne (by omega)]; rfl) rfl 0 (by decide) hiX4 (by decide +kernel) rfl rfl dX4_init_87 ?_
      refine g_imul X dX4_init_90 (pk_mul _ _) ?_
      refine g_iconst X (v := nI 4) dX4_init_91 (by decide) ?_
      refine g_idiv X dX4_init_92 (nI_ne0 (by omega) (by omega)) (pk_div (by omega) (by omega) (by omega)) ?_
      refine g_callI (n := 1) X (aup al 3 (i + 1) q 3 (i + 1)) [.int (nI (i * T / 4))] (c_Induct (i + 1) _ (by rw [wup_ne (by omega)]; simp [bW, hC 4 (i + 1) (by decide) (by omega)]) wup_self) ggX4_init_X1_init rfl rfl rfl (by decide +kernel) (by decide +kernel) (by decide +kernel) rfl (by decide +kernel) ⟨by decide, by decide⟩ rfl (Nat.le_of_ble_eq_true rfl) dX4_init_93 ⟨by show _ ≤ 29; omega, by show _ ≤ 1136; omega⟩ _ rfl (fun rv al2 C2 h7 => ?_)
      obtain ⟨rfl, q2, rfl, rfl⟩ := h7
      refine g_aast1 X 2 0 3 (i + 1) (f := fun j => if j < i then some (al 3 (j + 1)) else none) (by rw [wup_ne (by omega), wup_ne (by omega), wup_ne (by omega)]; rfl) wup_self i (by omega) (by decide) _ bW_ind dX4_init_96 ?_
      refine g_iinc X 0 [(3, .int (nI (i + 1))), (0, .ref (al 0 0))] dX4_init_97 rfl (nI_inc (by decide)) (by decide) rfl ?_
      refine g_goto X 71 dX4_init_100 (by decide) ?_
      refine g_widen (k := 4 + 2 * (i + 1)) (n := 1004 + 13 * (i + 1)) (by omega) (by omega) ?_
      exact ih (i + 1) (aup (aup al 3 (i + 1) q) 4 (i + 1) q2) (by omega) (by omega) h00 (fun k j hk => by rw [aup_ne (by omega), aup_ne (by omega)]; exact hak k j hk)
set_option maxRecDepth 100000 in
set_option maxHeartbeats 4000000 in
/-- LoopSorter(x, y) -/
theorem c_LoopSorter {l : Launch} {D : va_G} {ta : Nat → ClassId} {pl : Nat → Nat} {bs : Nat} {C : Wo} {al : Ad} (x y : Int32) (h0 : C 0 0 = some (.inr (4, [.int (nI 0), .int (nI 0), .null, .null, .null, .null, .null, .int (nI 0), .int (nI 0), .int (nI 0), .int (nI 0), .int (nI 0), .int (nI 0)]))) (hC : ∀ k i, k < 10 → ¬ (k = 0 ∧ i = 0) → C k i = none) : GM l D ta pl bs yX4_init wsX4_init { frames := 2, cells := 29, slots := 1136, locals := 40 } 29 1136 [.ref (al 0 0), .int x, .int y] al C (fun r al' C' => r = none ∧ al' 0 0 = al 0 0 ∧ (∀ k i, 10 ≤ k → al' k i = al k i) ∧ C' = mC C ta pl al' (u0 (cl x 200) (cl y 20))) := by
  refine GM.of (by decide) rfl (Nat.le_of_ble_eq_true rfl) ?_
  intro p e s m args below meth c X hnm
  have hiX4 : ∀ w ∈ u_ws RX4 TX4 13, w ∈ wsX4_init := by decide +kernel
  obtain ⟨hT, hT2⟩ := cl_in x (n := 200) (by decide) (by decide)
  obtain ⟨hM, hM2⟩ := cl_in y (n := 20) (by decide) (by decide)
  refine g_lv (lv' := [(0, .ref (al 0 0)), (1, .int x), (2, .int y)]) [0, 1, 2] rfl ?_
  refine g_aload_n X 0 dX4_init_0 rfl rfl ?_
  refine g_objInit X (by decide +kernel) (by decide +kernel) (by decide +kernel) dX4_init_1 (by decide) (Nat.le_of_ble_eq_true rfl) ?_
  refine g_aload_n X 0 dX4_init_4 rfl rfl ?_
  refine g_iload_n X 1 dX4_init_5 rfl rfl ?_
  refine g_sipush X (v := nI 200) dX4_init_6 (by decide) ?_
  refine g_callDS1 (n := 2) X [.int x, .int (nI 200)] (c_bring x 200 (by decide) (by decide)) gX4_init_X4_bringWithin rfl ⟨rfl, rfl⟩ (by decide +kernel) ⟨by decide, by decide⟩ rfl (Nat.le_of_ble_eq_true rfl) dX4_init_9 ⟨by decide, by decide⟩ _ rfl ?_
  refine g_putF X tyX4 tyX4_ok nmX4 0 0 h0 rfl 0 (by decide) hiX4 (by decide +kernel) rfl rfl hnm rfl (ty := .int) (by decide +kernel) rfl rfl (Nat.le_of_ble_eq_true rfl) _ rfl dX4_init_12 ?_
  refine g_aload_n X 0 dX4_init_15 rfl rfl ?_
  refine g_iload_n X 2 dX4_init_16 rfl rfl ?_
  refine g_bipush X (v := nI 20) dX4_init_17 (by decide) ?_
  refine g_callDS1 (n := 2) X [.int y, .int (nI 20)] (c_bring y 20 (by decide) (by decide)) gX4_init_X4_bringWithin rfl ⟨rfl, rfl⟩ (by decide +kernel) ⟨by decide, by decide⟩ rfl (Nat.le_of_ble_eq_true rfl) dX4_init_19 ⟨by decide, by decide⟩ _ rfl ?_
  refine g_putF X tyX4 tyX4_ok nmX4 0 0 wup_self rfl 1 (by decide) hiX4 (by decide +kernel) rfl rfl hnm rfl (ty := .int) (by decide +kernel) rfl rfl (Nat.le_of_ble_eq_true rfl) _ wup_wup dX4_init_22 ?_
  refine g_aload_n X 0 dX4_init_25 rfl rfl ?_
  refine g_aload_n X 0 dX4_init_26 rfl rfl ?_
  refine g_get X 0 0 (ci := 4) wup_self rfl 0 (by decide) hiX4 (by decide +kernel) rfl rfl dX4_init_27 ?_
  refine g_newq0 X 1 0 (by rw [wup_ne (by omega)]; exact hC 1 0 (by decide) (by omega)) (by decide +kernel) (cl x 200) (by omega) (by decide) (by show _ ≤ 1136; omega) dX4_init_30 (fun q1 => ?_)
  refine g_putF X tyX4 tyX4_ok nmX4 0 0 (by rw [wup_ne (by omega), wup_self]) rfl 2 (by decide) hiX4 (by decide +kernel) rfl rfl hnm rfl (ty := .array (.object "LoopSorter$Item")) (by decide +kernel) rfl rfl (Nat.le_of_ble_eq_true rfl) _ (wup_3 (by decide)) dX4_init_33 ?_
  refine g_aload_n X 0 dX4_init_36 rfl rfl ?_
  refine g_sipush X (v := nI 400) dX4_init_37 (by decide) ?_
  refine g_newq0 X 7 0 (by rw [wup_ne (by omega), wup_ne (by omega)]; exact hC 7 0 (by decide) (by omega)) (by decide +kernel) 400 (by decide) (by decide) (by show _ ≤ 1136; omega) dX4_init_40 (fun q2 => ?_)
  refine g_putF X tyX4 tyX4_ok nmX4 0 0 (by rw [wup_ne (by omega), wup_self]) rfl 5 (by decide) hiX4 (by decide +kernel) rfl rfl hnm rfl (ty := .array (.object "LoopSorter$Item")) (by decide +kernel) rfl rfl (Nat.le_of_ble_eq_true rfl) _ (wup_3 (by decide)) dX4_init_43 ?_
  refine g_aload_n X 0 dX4_init_46 rfl rfl ?_
  refine g_sipush X (v := nI 400) dX4_init_47 (by decide) ?_
  refine g_newq0 X 8 0 (by rw [wup_ne (by omega), wup_ne (by omega), wup_ne (by omega)]; exact hC 8 0 (by decide) (by omega)) (by decide +kernel) 400 (by decide) (by decide) (by show _ ≤ 1136; omega) dX4_init_50 (fun q3 => ?_)
  refine g_putF X tyX4 tyX4_ok nmX4 0 0 (by rw [wup_ne (by omega), wup_self]) rfl 6 (by decide) hiX4 (by decide +kernel) rfl rfl hnm rfl (ty := .array (.object "LoopSorter$Item")) (by decide +kernel) rfl rfl (Nat.le_of_ble_eq_true rfl) _ (wup_3 (by decide)) dX4_init_53 ?_
  refine g_aload_n X 0 dX4_init_56 rfl rfl ?_
  refine g_iconst X (v := nI 1) dX4_init_57 (by decide) ?_
  refine g_put X tyX4 tyX4_ok nmX4 0 0 wup_self rfl 10 (by decide) hiX4 (by decide +kernel) rfl rfl (ty := .int) (by decide +kernel) rfl rfl (Nat.le_of_ble_eq_true rfl) _ wup_wup dX4_init_58 ?_
  refine g_aload_n X 0 dX4_init_61 rfl rfl ?_
  refine g_iconst X (v := nI 4) dX4_init_62 (by decide) ?_
  refine g_newq1 X 2 0 (by rw [wup_ne (by omega), wup_ne (by omega), wup_ne (by omega), wup_ne (by omega)]; exact hC 2 0 (by decide) (by omega)) (by decide +kernel) 4 (by decide) (by decide) (by show _ ≤ 1136; omega) dX4_init_63 (fun q4 => ?_)
  refine g_putF X tyX4 tyX4_ok nmX4 0 0 (by rw [wup_ne (by omega), wup_self]) rfl 3 (by decide) hiX4 (by decide +kernel) rfl rfl hnm rfl (ty := .array (.object "LoopSorter$Induct")) (by decide +kernel) rfl rfl (Nat.le_of_ble_eq_true rfl) _ (wup_3 (by decide)) dX4_init_66 ?_
  refine g_iconst X (v := nI 0) dX4_init_69 (by decide) ?_
  refine g_istore_n X [(3, .int (nI 0)), (0, .ref (al 0 0)), (1, .int x), (2, .int y)] dX4_init_70 rfl (by decide) rfl ?_
  refine g_wo (C1 := bW C ta (aup (aup (aup (aup al 1 0 q1) 7 0 q2) 8 0 q3) 2 0 q4) (cl x 200) (cl y 20) 0 0 false) ?_ ?_
  · funext k i
    by_cases k0 : k = 0 ∧ i = 0
    · obtain ⟨rfl, rfl⟩ := k0
      simp [wup, bW, aup]
    · by_cases k1 : k = 1 ∧ i = 0
      · obtain ⟨rfl, rfl⟩ := k1
        simp [wup, bW]
      · by_cases k7 : k = 7 ∧ i = 0
        · obtain ⟨rfl, rfl⟩ := k7
          simp [wup, bW]
        · by_cases k8 : k = 8 ∧ i = 0
          · obtain ⟨rfl, rfl⟩ := k8
            simp [wup, bW]
          · by_cases k2 : k = 2 ∧ i = 0
            · obtain ⟨rfl, rfl⟩ := k2
              simp [wup, bW]
            · simp [wup, bW, k0, k1, k2, k7, k8, show ¬ (1 ≤ i ∧ i = 0) by omega]
  refine g_lv (lv' := [(3, .int (nI 0)), (0, .ref ((aup (aup (aup (aup al 1 0 q1) 7 0 q2) 8 0 q3) 2 0 q4) 0 0))]) [0, 1] rfl ?_
  refine g_widen (k := 4 + 2 * 0) (n := 1004 + 13 * 0) (by omega) (by omega) ?_
  exact l_init1 X hnm hT hT2 hC 5 0 _ (Nat.zero_le _) (Nat.le_refl _) rfl (fun k j hk => by rw [aup_ne (by omega), aup_ne (by omega), aup_ne (by omega), aup_ne (by omega)])
end
section
def v0 (T M n : Nat) : St := fun f j => if f = 11 then (if j < n then j else 0) else if j = 0 then (if f = 1 then T else if f = 2 then M else if f = 3 then 1 else 0) else 0
theorem v0_s {T M n : Nat} : st (v0 T M n) 11 n n = v0 T M (n + 1) := by
  funext f j
  by_cases hf : f = 11
  · subst hf
    by_cases hj : j = n
    · subst hj; simp [st, v0]
    · by_cases hl : j < n
      · simp [st, v0, hj, hl, show j < n + 1 by omega]
      · simp [st, v0, hj, hl, show ¬ j < n + 1 by omega]
  · simp [st, v0, hf]
set_option maxRecDepth 100000 in
set_option maxHeartbeats 4000000 in
theorem l_minit {l : Launch} {D : va_G} {ta : Nat → ClassId} {pl : Nat → Nat} {bs : Nat} {C : Wo} {al ak : Ad} {T M : Nat} {p : Program} {e : Env} {s : State} {m : MethodId} {args : Array Value} {below : List Frame} {meth : Method} {c : Code} (X : Cx D ta pl bs 4 p s m args meth c cX5_init wsX5_init RX5 none) (hak : ∀ k i, ¬ (11 ≤ k ∧ k ≤ 25) → al k i = ak k i) : ∀ (n9 i : Nat), i ≤ 200 → 200 + 1 ≤ i + n9 → WW D bs 4 p l e { frames := 1, cells := 15, slots := 4046, locals := 14 } s m args below meth c (QQ D bs below args s 15 4046 (fun r al' C' => r = none ∧ (∀ k i, ¬ (11 ≤ k ∧ k ≤ 25) → al' k i = ak k i) ∧ C' = mM C ta al' (v0 T M 200))) al (mM C ta al (v0 T M i)) 15 4046 192 [(3, .int (nI i)), (0, .ref (al 10 0))] [] := by
  have hiX5 : ∀ w ∈ u_ws RX5 TX5 22, w ∈ wsX5_init := by decide +kernel
  intro n9
  induction n9 with
  | zero => intro i h8 h9; exact absurd h9 (by omega)
  | succ n9 ih =>
    intro i h8 h9
    refine g_iload_n X 0 dX5_init_192 rfl rfl ?_
    refine g_sipush X (v := nI 200) dX5_init_193 (by decide) ?_
    refine g_icmp_ge X 212 dX5_init_196 (by decide) (nI_leI (by omega) (by omega)) (fun c_1 => ?_) (fun c_1 => ?_)
    · have e9 : i = 200 := by omega
      subst e9
      exact g_vret X rfl dX5_init_212 ⟨rfl, hak, rfl⟩
    · refine g_aload_n X 1 dX5_init_199 rfl rfl ?_
      refine g_get X 10 0 (ci := 5) cm10 rfl 3 (by decide) hiX5 (by decide +kernel) rfl rfl dX5_init_200 ?_
      refine g_iload_n X 0 dX5_init_203 rfl rfl ?_
      refine g_iload_n X 0 dX5_init_204 rfl rfl ?_
      refine g_iast X 11 0 cm11 i (by omega) (by decide) _ um_a11 dX5_init_205 ?_
      refine g_iinc X 0 [(3, .int (nI (i + 1))), (0, .ref (al 10 0))] dX5_init_206 rfl (nI_inc (by decide)) (by decide) rfl ?_
      refine g_goto X 192 dX5_init_209 (by decide) ?_
      rw [v0_s]
      exact ih (i + 1) (by omega) (by omega)
theorem um_trays {Z : Wo} {ta : Nat → ClassId} {al : Ad} {v : St} {x : Nat} : wup (mM Z ta al v) 10 0 (.inr (5, [.int (nI (v 0 0)), .int (nI x), .int (nI (v 2 0)), .ref (al 11 0), .ref (al 12 0), .int (nI (v 3 0)), .int (nI (v 4 0)), .int (nI (v 5 0)), .ref (al 13 0), .ref (al 14 0), .ref (al 15 0), .ref (al 16 0), .ref (al 17 0), .ref (al 18 0), .ref (al 19 0), .ref (al 20 0), .ref (al 21 0), .int (nI (v 6 0)), .ref (al 22 0), .ref (al 23 0), .ref (al 24 0), .ref (al 25 0)])) = mM Z ta al (st v 1 0 x) := by
  funext k' i'
  by_cases hk : k' = 10 ∧ i' = 0
  · obtain ⟨rfl, rfl⟩ := hk
    rw [wup_self]
    simp [mM, cM, st]
  · rw [wup_ne hk]
    rcases (show k' = 10 ∨ k' = 11 ∨ k' = 12 ∨ k' = 13 ∨ k' = 14 ∨ k' = 15 ∨ k' = 16 ∨ k' = 17 ∨ k' = 18 ∨ k' = 19 ∨ k' = 20 ∨ k' = 21 ∨ k' = 22 ∨ k' = 23 ∨ k' = 24 ∨ k' = 25 ∨ ¬ (10 ≤ k' ∧ k' < 26) by omega) with rfl | rfl | rfl | rfl | rfl | rfl | rfl | rfl | rfl | rfl | rfl | rfl | rfl | rfl | rfl | rfl | h10
    · have hi : i' ≠ 0 := fun z => hk ⟨rfl, z⟩
      simp [mM, cM, hi]
    · simp [mM, cM, st]
    · simp [mM, cM, st]
    · simp [mM, cM, st]
    · simp [mM, cM, st]
    · simp [mM, cM, st]
    · simp [mM, cM, st]
    · simp [mM, cM, st]
    · simp [mM, cM, st]
    · simp [mM, cM, st]
    · simp [mM, cM, st]
    · simp [mM, cM, st]
    · simp [mM, cM, st]
    · simp [mM, cM, st]
    · simp [mM, cM, st]
    · simp [mM, cM, st]
    · simp [mM, h10]
theorem um_most {Z : Wo} {ta : Nat → ClassId} {al : Ad} {v : St} {x : Nat} : wup (mM Z ta al v) 10 0 (.inr (5, [.int (nI (v 0 0)), .int (nI (v 1 0)), .int (nI x), .ref (al 11 0), .ref (al 12 0), .int (nI (v 3 0)), .int (nI (v 4 0)), .int (nI (v 5 0)), .ref (al 13 0), .ref (al 14 0), .ref (al 15 0), .ref (al 16 0), .ref (al 17 0), .ref (al 18 0), .ref (al 19 0), .ref (al 20 0), .ref (al 21 0), .int (nI (v 6 0)), .ref (al 22 0), .ref (al 23 0), .ref (al 24 0), .ref (al 25 0)])) = mM Z ta al (st v 2 0 x) := by
  funext k' i'
  by_cases hk : k' = 10 ∧ i' = 0
  · obtain ⟨rfl, rfl⟩ := hk
    rw [wup_self]
    simp [mM, cM, st]
  · rw [wup_ne hk]
    rcases (show k' = 10 ∨ k' = 11 ∨ k' = 12 ∨ k' = 13 ∨ k' = 14 ∨ k' = 15 ∨ k' = 16 ∨ k' = 17 ∨ k' = 18 ∨ k' = 19 ∨ k' = 20 ∨ k' = 21 ∨ k' = 22 ∨ k' = 23 ∨ k' = 24 ∨ k' = 25 ∨ ¬ (10 ≤ k' ∧ k' < 26) by omega) with rfl | rfl | rfl | rfl | rfl | rfl | rfl | rfl | rfl | rfl | rfl | rfl | rfl | rfl | rfl | rfl | h10
    · have hi : i' ≠ 0 := fun z => hk ⟨rfl, z⟩
      simp [mM, cM, hi]
    · simp [mM, cM, st]
    · simp [mM, cM, st]
    · simp [mM, cM, st]
    · simp [mM, cM, st]
    · simp [mM, cM, st]
    · simp [mM, cM, st]
    · simp [mM, cM, st]
    · simp [mM, cM, st]
    · simp [mM, cM, st]
    · simp [mM, cM, st]
    · simp [mM, cM, st]
    · simp [mM, cM, st]
    · simp [mM, cM, st]
    · simp [mM, cM, st]
    · simp [mM, cM, st]
    · simp [mM, h10]
theorem v0_T {T M : Nat} : st (st (v0 0 0 0) 1 0 T) 2 0 M = v0 T M 0 := by
  funext f j
  by_cases h2 : f = 2 ∧ j = 0
  · obtain ⟨rfl, rfl⟩ := h2; simp [st, v0]
  · by_cases h1 : f = 1 ∧ j = 0
    · obtain ⟨rfl, rfl⟩ := h1; simp [st, v0]
    · by_cases hf : f = 11
      · subst hf; simp [st, v0]
      · by_cases hj : j = 0
        · subst hj
          have a2 : f ≠ 2 := fun z => h2 ⟨z, rfl⟩
          have a1 : f ≠ 1 := fun z => h1 ⟨z, rfl⟩
          simp [st, v0, hf, a1, a2]
        · simp [st, v0, hf, hj]
set_option maxRecDepth 100000 in
set_option maxHeartbeats 4000000 in
theorem l_minit0 {l : Launch} {D : va_G} {ta : Nat → ClassId} {pl : Nat → Nat} {bs : Nat} {C : Wo} {al ak : Ad} {T M : Nat} {p : Program} {e : Env} {s : State} {m : MethodId} {args : Array Value} {below : List Frame} {meth : Method} {c : Code} (X : Cx D ta pl bs 4 p s m args meth c cX5_init wsX5_init RX5 none) (hnm : meth.name = "<init>") (hak : ∀ k i, ¬ (11 ≤ k ∧ k ≤ 25) → al k i = ak k i) (x y : Int32) (hx : (x < nI 1 ∧ T = 1) ∨ (¬ x < nI 1 ∧ nI 200 < x ∧ T = 200) ∨ (x = nI T ∧ ¬ x < nI 1 ∧ ¬ nI 200 < x ∧ 1 ≤ T ∧ T ≤ 200)) (hy : (y < nI 1 ∧ M = 1) ∨ (¬ y < nI 1 ∧ nI 20 < y ∧ M = 20) ∨ (y = nI M ∧ ¬ y < nI 1 ∧ ¬ nI 20 < y ∧ 1 ≤ M ∧ M ≤ 20)) : WW D bs 4 p l e { frames := 1, cells := 15, slots := 4046, locals := 14 } s m args below meth c (QQ D bs below args s 15 4046 (fun r al' C' => r = none ∧ (∀ k i, ¬ (11 ≤ k ∧ k ≤ 25) → al' k i = ak k i) ∧ C' = mM C ta al' (v0 T M 200))) al (mM C ta al (v0 0 0 0)) 15 4046 138 [(0, .ref (al 10 0)), (1, .int x), (2, .int y)] [] := by
  have hiX5 : ∀ w ∈ u_ws RX5 TX5 22, w ∈ wsX5_init := by decide +kernel
  rcases hx with ⟨hxa, rfl⟩ | ⟨hxa, hxb, rfl⟩ | ⟨rfl, hxa, hxb, hx1, hx2⟩
  · refine g_aload_n X 0 dX5_init_138 rfl rfl ?_
    refine g_iload_n X 1 dX5_init_139 rfl rfl ?_
    refine g_iconst X (v := nI 1) dX5_init_140 (by decide) ?_
    refine g_icmp_ge X 148 dX5_init_141 (by decide) Iff.rfl (fun c_1 => absurd hxa (Int32.not_lt.mpr c_1)) (fun c_1 => ?_)
    refine g_iconst X (v := nI 1) dX5_init_144 (by decide) ?_
    refine g_goto X 162 dX5_init_145 (by decide) ?_
    refine g_putF X tyX5 tyX5_ok nmX5 10 0 cm10 rfl 1 (by decide) hiX5 (by decide +kernel) rfl rfl hnm rfl (ty := .int) (by decide +kernel) rfl rfl (Nat.le_of_ble_eq_true rfl) _ um_trays dX5_init_162 ?_
    rcases hy with ⟨hya, rfl⟩ | ⟨hya, hyb, rfl⟩ | ⟨rfl, hya, hyb, hy1, hy2⟩
    · refine g_aload_n X 0 dX5_init_165 rfl rfl ?_
      refine g_iload_n X 2 dX5_init_166 rfl rfl ?_
      refine g_iconst X (v := nI 1) dX5_init_167 (by decide) ?_
      refine g_icmp_ge X 175 dX5_init_168 (by decide) Iff.rfl (fun c_1 => absurd hya (Int32.not_lt.mpr c_1)) (fun c_1 => ?_)
      refine g_iconst X (v := nI 1) dX5_init_171 (by decide) ?_
      refine g_goto X 187 dX5_init_172 (by decide) ?_
      refine g_putF X tyX5 tyX5_ok nmX5 10 0 cm10 rfl 2 (by decide) hiX5 (by decide +kernel) rfl rfl hnm rfl (ty := .int) (by decide +kernel) rfl rfl (Nat.le_of_ble_eq_true rfl) _ um_most dX5_init_187 ?_
      refine g_iconst X (v := nI 0) dX5_init_190 (by decide) ?_
      refine g_istore_n X [(3, .int (nI 0)), (0, .ref (al 10 0)), (1, _), (2, _)] dX5_init_191 rfl (by decide) rfl ?_
      refine g_lv (lv' := [(3, .int (nI 0)), (0, .ref (al 10 0))]) [0, 1] rfl ?_
      rw [v0_T]
      exact l_minit X hak 201 0 (Nat.zero_le _) (Nat.le_refl _)
    · refine g_aload_n X 0 dX5_init_165 rfl rfl ?_
      refine g_iload_n X 2 dX5_init_166 rfl rfl ?_
      refine g_iconst X (v := nI 1) dX5_init_167 (by decide) ?_
      refine g_icmp_ge X 175 dX5_init_168 (by decide) Iff.rfl (fun c_1 => ?_) (fun c_1 => absurd (Int32.not_lt.mp hya) c_1)
      refine g_iload_n X 2 dX5_init_175 rfl rfl ?_
      refine g_bipush X (v := nI 20) dX5_init_176 (by decide) ?_
      refine g_icmp_le X 186 dX5_init_178 (by decide) Iff.rfl (fun c_2 => absurd hyb (Int32.not_lt.mpr c_2)) (fun c_2 => ?_)
      refine g_bipush X (v := nI 20) dX5_init_181 (by decide) ?_
      refine g_goto X 187 dX5_init_183 (by decide) ?_
      refine g_putF X tyX5 tyX5_ok nmX5 10 0 cm10 rfl 2 (by decide) hiX5 (by decide +kernel) rfl rfl hnm rfl (ty := .int) (by decide +kernel) rfl rfl (Nat.le_of_ble_eq_true rfl) _ um_most dX5_init_187 ?_
      refine g_iconst X (v := nI 0) dX5_init_190 (by decide) ?_
      refine g_istore_n X [(3, .int (nI 0)), (0, .ref (al 10 0)), (1, _), (2, _)] dX5_init_191 rfl (by decide) rfl ?_
      refine g_lv (lv' := [(3, .int (nI 0)), (0, .ref (al 10 0))]) [0, 1] rfl ?_
      rw [v0_T]
      exact l_minit X hak 201 0 (Nat.zero_le _) (Nat.le_refl _)
    · refine g_aload_n X 0 dX5_init_165 rfl rfl ?_
      refine g_iload_n X 2 dX5_init_166 rfl rfl ?_
      refine g_iconst X (v := nI 1) dX5_init_167 (by decide) ?_
      refine g_icmp_ge X 175 dX5_init_168 (by decide) Iff.rfl (fun c_1 => ?_) (fun c_1 => absurd (Int32.not_lt.mp hya) c_1)
      refine g_iload_n X 2 dX5_init_175 rfl rfl ?_
      refine g_bipush X (v := nI 20) dX5_init_176 (by decide) ?_
      refine g_icmp_le X 186 dX5_init_178 (by decide) Iff.rfl (fun c_2 => ?_) (fun c_2 => absurd (Int32.not_lt.mp hyb) c_2)
      refine g_iload_n X 2 dX5_init_186 rfl rfl ?_
      refine g_putF X tyX5 tyX5_ok nmX5 10 0 cm10 rfl 2 (by decide) hiX5 (by decide +kernel) rfl rfl hnm rfl (ty := .int) (by decide +kernel) rfl rfl (Nat.le_of_ble_eq_true rfl) _ um_most dX5_init_187 ?_
      refine g_iconst X (v := nI 0) dX5_init_190 (by decide) ?_
      refine g_istore_n X [(3, .int (nI 0)), (0, .ref (al 10 0)), (1, _), (2, _)] dX5_init_191 rfl (by decide) rfl ?_
      refine g_lv (lv' := [(3, .int (nI 0)), (0, .ref (al 10 0))]) [0, 1] rfl ?_
      rw [v0_T]
      exact l_minit X hak 201 0 (Nat.zero_le _) (Nat.le_refl _)
  · refine g_aload_n X 0 dX5_init_138 rfl rfl ?_
    refine g_iload_n X 1 dX5_init_139 rfl rfl ?_
    refine g_iconst X (v := nI 1) dX5_init_140 (by decide) ?_
    refine g_icmp_ge X 148 dX5_init_141 (by decide) Iff.rfl (fun c_1 => ?_) (fun c_1 => absurd (Int32.not_lt.mp hxa) c_1)
    refine g_iload_n X 1 dX5_init_148 rfl rfl ?_
    refine g_sipush X (v := nI 200) dX5_init_149 (by decide) ?_
    refine g_icmp_le X 161 dX5_init_152 (by decide) Iff.rfl (fun c_2 => absurd hxb (Int32.not_lt.mpr c_2)) (fun c_2 => ?_)
    refine g_sipush X (v := nI 200) dX5_init_155 (by decide) ?_
    refine g_goto X 162 dX5_init_158 (by decide) ?_
    refine g_putF X tyX5 tyX5_ok nmX5 10 0 cm10 rfl 1 (by decide) hiX5 (by decide +kernel) rfl rfl hnm rfl (ty := .int) (by decide +kernel) rfl rfl (Nat.le_of_ble_eq_true rfl) _ um_trays dX5_init_162 ?_
    rcases hy with ⟨hya, rfl⟩ | ⟨hya, hyb, rfl⟩ | ⟨rfl, hya, hyb, hy1, hy2⟩
    · refine g_aload_n X 0 dX5_init_165 rfl rfl ?_
      refine g_iload_n X 2 dX5_init_166 rfl rfl ?_
      refine g_iconst X (v := nI 1) dX5_init_167 (by decide) ?_
      refine g_icmp_ge X 175 dX5_init_168 (by decide) Iff.rfl (fun c_1 => absurd hya (Int32.not_lt.mpr c_1)) (fun c_1 => ?_)
      refine g_iconst X (v := nI 1) dX5_init_171 (by decide) ?_
      refine g_goto X 187 dX5_init_172 (by decide) ?_
      refine g_putF X tyX5 tyX5_ok nmX5 10 0 cm10 rfl 2 (by decide) hiX5 (by decide +kernel) rfl rfl hnm rfl (ty := .int) (by decide +kernel) rfl rfl (Nat.le_of_ble_eq_true rfl) _ um_most dX5_init_187 ?_
      refine g_iconst X (v := nI 0) dX5_init_190 (by decide) ?_
      refine g_istore_n X [(3, .int (nI 0)), (0, .ref (al 10 0)), (1, _), (2, _)] dX5_init_191 rfl (by decide) rfl ?_
      refine g_lv (lv' := [(3, .int (nI 0)), (0, .ref (al 10 0))]) [0, 1] rfl ?_
      rw [v0_T]
      exact l_minit X hak 201 0 (Nat.zero_le _) (Nat.le_refl _)
    · refine g_aload_n X 0 dX5_init_165 rfl rfl ?_
      refine g_iload_n X 2 dX5_init_166 rfl rfl ?_
      refine g_iconst X (v := nI 1) dX5_init_167 (by decide) ?_
      refine g_icmp_ge X 175 dX5_init_168 (by decide) Iff.rfl (fun c_1 => ?_) (fun c_1 => absurd (Int32.not_lt.mp hya) c_1)
      refine g_iload_n X 2 dX5_init_175 rfl rfl ?_
      refine g_bipush X (v := nI 20) dX5_init_176 (by decide) ?_
      refine g_icmp_le X 186 dX5_init_178 (by decide) Iff.rfl (fun c_2 => absurd hyb (Int32.not_lt.mpr c_2)) (fun c_2 => ?_)
      refine g_bipush X (v := nI 20) dX5_init_181 (by decide) ?_
      refine g_goto X 187 dX5_init_183 (by decide) ?_
      refine g_putF X tyX5 tyX5_ok nmX5 10 0 cm10 rfl 2 (by decide) hiX5 (by decide +kernel) rfl rfl hnm rfl (ty := .int) (by decide +kernel) rfl rfl (Nat.le_of_ble_eq_true rfl) _ um_most dX5_init_187 ?_
      refine g_iconst X (v := nI 0) dX5_init_190 (by decide) ?_
      refine g_istore_n X [(3, .int (nI 0)), (0, .ref (al 10 0)), (1, _), (2, _)] dX5_init_191 rfl (by decide) rfl ?_
      refine g_lv (lv' := [(3, .int (nI 0)), (0, .ref (al 10 0))]) [0, 1] rfl ?_
      rw [v0_T]
      exact l_minit X hak 201 0 (Nat.zero_le _) (Nat.le_refl _)
    · refine g_aload_n X 0 dX5_init_165 rfl rfl ?_
      refine g_iload_n X 2 dX5_init_166 rfl rfl ?_
      refine g_iconst X (v := nI 1) dX5_init_167 (by decide) ?_
      refine g_icmp_ge X 175 dX5_init_168 (by decide) Iff.rfl (fun c_1 => ?_) (fun c_1 => absurd (Int32.not_lt.mp hya) c_1)
      refine g_iload_n X 2 dX5_init_175 rfl rfl ?_
      refine g_bipush X (v := nI 20) dX5_init_176 (by decide) ?_
      refine g_icmp_le X 186 dX5_init_178 (by decide) Iff.rfl (fun c_2 => ?_) (fun c_2 => absurd (Int32.not_lt.mp hyb) c_2)
      refine g_iload_n X 2 dX5_init_186 rfl rfl ?_
      refine g_putF X tyX5 tyX5_ok nmX5 10 0 cm10 rfl 2 (by decide) hiX5 (by decide +kernel) rfl rfl hnm rfl (ty := .int) (by decide +kernel) rfl rfl (Nat.le_of_ble_eq_true rfl) _ um_most dX5_init_187 ?_
      refine g_iconst X (v := nI 0) dX5_init_190 (by decide) ?_
      refine g_istore_n X [(3, .int (nI 0)), (0, .ref (al 10 0)), (1, _), (2, _)] dX5_init_191 rfl (by decide) rfl ?_
      refine g_lv (lv' := [(3, .int (nI 0)), (0, .ref (al 10 0))]) [0, 1] rfl ?_
      rw [v0_T]
      exact l_minit X hak 201 0 (Nat.zero_le _) (Nat.le_refl _)
  · refine g_aload_n X 0 dX5_init_138 rfl rfl ?_
    refine g_iload_n X 1 dX5_init_139 rfl rfl ?_
    refine g_iconst X (v := nI 1) dX5_init_140 (by decide) ?_
    refine g_icmp_ge X 148 dX5_init_141 (by decide) Iff.rfl (fun c_1 => ?_) (fun c_1 => absurd (Int32.not_lt.mp hxa) c_1)
    refine g_iload_n X 1 dX5_init_148 rfl rfl ?_
    refine g_sipush X (v := nI 200) dX5_init_149 (by decide) ?_
    refine g_icmp_le X 161 dX5_init_152 (by decide) Iff.rfl (fun c_2 => ?_) (fun c_2 => absurd (Int32.not_lt.mp hxb) c_2)
    refine g_iload_n X 1 dX5_init_161 rfl rfl ?_
    refine g_putF X tyX5 tyX5_ok nmX5 10 0 cm10 rfl 1 (by decide) hiX5 (by decide +kernel) rfl rfl hnm rfl (ty := .int) (by decide +kernel) rfl rfl (Nat.le_of_ble_eq_true rfl) _ um_trays dX5_init_162 ?_
    rcases hy with ⟨hya, rfl⟩ | ⟨hya, hyb, rfl⟩ | ⟨rfl, hya, hyb, hy1, hy2⟩
    · refine g_aload_n X 0 dX5_init_165 rfl rfl ?_
      refine g_iload_n X 2 dX5_init_166 rfl rfl ?_
      refine g_iconst X (v := nI 1) dX5_init_167 (by decide) ?_
      refine g_icmp_ge X 175 dX5_init_168 (by decide) Iff.rfl (fun c_1 => absurd hya (Int32.not_lt.mpr c_1)) (fun c_1 => ?_)
      refine g_iconst X (v := nI 1) dX5_init_171 (by decide) ?_
      refine g_goto X 187 dX5_init_172 (by decide) ?_
      refine g_putF X tyX5 tyX5_ok nmX5 10 0 cm10 rfl 2 (by decide) hiX5 (by decide +kernel) rfl rfl hnm rfl (ty := .int) (by decide +kernel) rfl rfl (Nat.le_of_ble_eq_true rfl) _ um_most dX5_init_187 ?_
      refine g_iconst X (v := nI 0) dX5_init_190 (by decide) ?_
      refine g_istore_n X [(3, .int (nI 0)), (0, .ref (al 10 0)), (1, _), (2, _)] dX5_init_191 rfl (by decide) rfl ?_
      refine g_lv (lv' := [(3, .int (nI 0)), (0, .ref (al 10 0))]) [0, 1] rfl ?_
      rw [v0_T]
      exact l_minit X hak 201 0 (Nat.zero_le _) (Nat.le_refl _)
    · refine g_aload_n X 0 dX5_init_165 rfl rfl ?_
      refine g_iload_n X 2 dX5_init_166 rfl rfl ?_
      refine g_iconst X (v := nI 1) dX5_init_167 (by decide) ?_
      refine g_icmp_ge X 175 dX5_init_168 (by decide) Iff.rfl (fun c_1 => ?_) (fun c_1 => absurd (Int32.not_lt.mp hya) c_1)
      refine g_iload_n X 2 dX5_init_175 rfl rfl ?_
      refine g_bipush X (v := nI 20) dX5_init_176 (by decide) ?_
      refine g_icmp_le X 186 dX5_init_178 (by decide) Iff.rfl (fun c_2 => absurd hyb (Int32.not_lt.mpr c_2)) (fun c_2 => ?_)
      refine g_bipush X (v := nI 20) dX5_init_181 (by decide) ?_
      refine g_goto X 187 dX5_init_183 (by decide) ?_
      refine g_putF X tyX5 tyX5_ok nmX5 10 0 cm10 rfl 2 (by decide) hiX5 (by decide +kernel) rfl rfl hnm rfl (ty := .int) (by decide +kernel) rfl rfl (Nat.le_of_ble_eq_true rfl) _ um_most dX5_init_187 ?_
      refine g_iconst X (v := nI 0) dX5_init_190 (by decide) ?_
      refine g_istore_n X [(3, .int (nI 0)), (0, .ref (al 10 0)), (1, _), (2, _)] dX5_init_191 rfl (by decide) rfl ?_
      refine g_lv (lv' := [(3, .int (nI 0)), (0, .ref (al 10 0))]) [0, 1] rfl ?_
      rw [v0_T]
      exact l_minit X hak 201 0 (Nat.zero_le _) (Nat.le_refl _)
    · refine g_aload_n X 0 dX5_init_165 rfl rfl ?_
      refine g_iload_n X 2 dX5_init_166 rfl rfl ?_
      refine g_iconst X (v := nI 1) dX5_init_167 (by decide) ?_
      refine g_icmp_ge X 175 dX5_init_168 (by decide) Iff.rfl (fun c_1 => ?_) (fun c_1 => absurd (Int32.not_lt.mp hya) c_1)
      refine g_iload_n X 2 dX5_init_175 rfl rfl ?_
      refine g_bipush X (v := nI 20) dX5_init_176 (by decide) ?_
      refine g_icmp_le X 186 dX5_init_178 (by decide) Iff.rfl (fun c_2 => ?_) (fun c_2 => absurd (Int32.not_lt.mp hyb) c_2)
      refine g_iload_n X 2 dX5_init_186 rfl rfl ?_
      refine g_putF X tyX5 tyX5_ok nmX5 10 0 cm10 rfl 2 (by decide) hiX5 (by decide +kernel) rfl rfl hnm rfl (ty := .int) (by decide +kernel) rfl rfl (Nat.le_of_ble_eq_true rfl) _ um_most dX5_init_187 ?_
      refine g_iconst X (v := nI 0) dX5_init_190 (by decide) ?_
      refine g_istore_n X [(3, .int (nI 0)), (0, .ref (al 10 0)), (1, _), (2, _)] dX5_init_191 rfl (by decide) rfl ?_
      refine g_lv (lv' := [(3, .int (nI 0)), (0, .ref (al 10 0))]) [0, 1] rfl ?_
      rw [v0_T]
      exact l_minit X hak 201 0 (Nat.zero_le _) (Nat.le_refl _)
theorem mini {C : Wo} {ta : Nat → ClassId} {al : Ad} (hC : ∀ k i, 10 ≤ k → k ≤ 25 → ¬ (k = 10 ∧ i = 0) → C k i = none) : wup (wup (wup (wup (wup (wup (wup (wup (wup (wup (wup (wup (wup (wup (wup (wup C 11 0 (.inl (ta 3, 200, .inl (fun _ => 0)))) 12 0 (.inl (ta 3, 200, .inl (fun _ => 0)))) 13 0 (.inl (ta 3, 401, .inl (fun _ => 0)))) 14 0 (.inl (ta 3, 401, .inl (fun _ => 0)))) 15 0 (.inl (ta 3, 401, .inl (fun _ => 0)))) 16 0 (.inl (ta 3, 401, .inl (fun _ => 0)))) 17 0 (.inl (ta 3, 401, .inl (fun _ => 0)))) 18 0 (.inl (ta 3, 401, .inl (fun _ => 0)))) 19 0 (.inl (ta 4, 4, .inr (.inl (fun _ => 0))))) 20 0 (.inl (ta 3, 16, .inl (fun _ => 0)))) 21 0 (.inl (ta 5, 16, .inl (fun _ => 0)))) 22 0 (.inl (ta 3, 400, .inl (fun _ => 0)))) 23 0 (.inl (ta 3, 400, .inl (fun _ => 0)))) 24 0 (.inl (ta 3, 400, .inl (fun _ => 0)))) 25 0 (.inl (ta 5, 4, .inl (fun _ => 0)))) 10 0 (.inr (5, [.int (nI 0), .int (nI 0), .int (nI 0), .ref (al 11 0), .ref (al 12 0), .int (nI 1), .int (nI 0), .int (nI 0), .ref (al 13 0), .ref (al 14 0), .ref (al 15 0), .ref (al 16 0), .ref (al 17 0), .ref (al 18 0), .ref (al 19 0), .ref (al 20 0), .ref (al 21 0), .int (nI 0), .ref (al 22 0), .ref (al 23 0), .ref (al 24 0), .ref (al 25 0)])) = mM C ta al (v0 0 0 0) := by
  have e0 : (fun _ : Nat => (0 : Int32)) = fun _ => nI 0 := rfl
  have e1 : (fun _ : Nat => (0 : Int64)) = fun _ => lN 0 := rfl
  funext k i
  by_cases h : 10 ≤ k ∧ k < 26
  · by_cases hi : i = 0
    · subst hi
      rcases (show k = 10 ∨ k = 11 ∨ k = 12 ∨ k = 13 ∨ k = 14 ∨ k = 15 ∨ k = 16 ∨ k = 17 ∨ k = 18 ∨ k = 19 ∨ k = 20 ∨ k = 21 ∨ k = 22 ∨ k = 23 ∨ k = 24 ∨ k = 25 by omega) with rfl | rfl | rfl | rfl | rfl | rfl | rfl | rfl | rfl | rfl | rfl | rfl | rfl | rfl | rfl | rfl <;> simp [wup, mM, cM, v0, e0, e1]
    · have hc : C k i = none := hC k i h.1 (by omega) (fun z => hi z.2)
      simp only [wup, hi, and_false, if_false, hc]
      rcases (show k = 10 ∨ k = 11 ∨ k = 12 ∨ k = 13 ∨ k = 14 ∨ k = 15 ∨ k = 16 ∨ k = 17 ∨ k = 18 ∨ k = 19 ∨ k = 20 ∨ k = 21 ∨ k = 22 ∨ k = 23 ∨ k = 24 ∨ k = 25 by omega) with rfl | rfl | rfl | rfl | rfl | rfl | rfl | rfl | rfl | rfl | rfl | rfl | rfl | rfl | rfl | rfl <;> simp [mM, cM, hi]
  · have e : ∀ j, 10 ≤ j → j < 26 → ¬ k = j := fun j h1 h2 z => h (by omega)
    simp [mM, h, wup, e]
set_option maxRecDepth 100000 in
set_option maxHeartbeats 4000000 in
/-- LoopSorterModel(x, y) -/
theorem m_Model {l : Launch} {D : va_G} {ta : Nat → ClassId} {pl : Nat → Nat} {bs : Nat} {C : Wo} {al : Ad} (x y : Int32) (h0 : C 10 0 = some (.inr (5, [.int (nI 0), .int (nI 0), .int (nI 0), .null, .null, .int (nI 0), .int (nI 0), .int (nI 0), .null, .null, .null, .null, .null, .null, .null, .null, .null, .int (nI 0), .null, .null, .null, .null]))) (hC : ∀ k i, 10 ≤ k → k ≤ 25 → ¬ (k = 10 ∧ i = 0) → C k i = none) : GM l D ta pl bs yX5_init wsX5_init { frames := 1, cells := 15, slots := 4046, locals := 14 } 15 4046 [.ref (al 10 0), .int x, .int y] al C (fun r al' C' => r = none ∧ (∀ k i, ¬ (11 ≤ k ∧ k ≤ 25) → al' k i = al k i) ∧ C' = mM C ta al' (v0 (cl x 200) (cl y 20) 200)) := by
  have hx := cl_cases x (n := 200) (by decide) (by decide)
  have hy := cl_cases y (n := 20) (by decide) (by decide)
  generalize cl x 200 = T at hx ⊢
  generalize cl y 20 = M at hy ⊢
  refine GM.of (by decide) rfl (Nat.le_of_ble_eq_true rfl) ?_
  intro p e s m args below meth c X hnm
  have hiX5 : ∀ w ∈ u_ws RX5 TX5 22, w ∈ wsX5_init := by decide +kernel
  refine g_lv (lv' := [(0, .ref (al 10 0)), (1, .int x), (2, .int y)]) [0, 1, 2] rfl ?_
  refine g_aload_n X 0 dX5_init_0 rfl rfl ?_
  refine g_objInit X (by decide +kernel) (by decide +kernel) (by decide +kernel) dX5_init_1 (by decide) (Nat.le_of_ble_eq_true rfl) ?_
  refine g_aload_n X 0 dX5_init_4 rfl rfl ?_
  refine g_sipush X (v := nI 200) dX5_init_5 (by decide) ?_
  refine g_newi X 11 0 (hC 11 0 (by decide) (by decide) (by omega)) (by decide +kernel) 200 (by decide) (by decide) (by decide) dX5_init_8 (fun q11 => ?_)
  generalize hal1 : aup al 11 0 q11 = al1
  have e1_10 : al 10 0 = al1 10 0 := by rw [← hal1]; rfl
  have hak1 : ∀ k i, ¬ (11 ≤ k ∧ k ≤ 25) → al1 k i = al k i := fun k i hk => by rw [← hal1, aup_ne (by omega)]
  rw [e1_10]
  refine g_putF X tyX5 tyX5_ok nmX5 10 0 (by rw [wup_ne (by omega)]; exact h0) rfl 3 (by decide) hiX5 (by decide +kernel) rfl rfl hnm rfl (ty := .array .int) (by decide +kernel) rfl rfl (Nat.le_of_ble_eq_true rfl) _ rfl dX5_init_10 ?_
  refine g_aload_n X 0 dX5_init_13 rfl rfl ?_
  refine g_sipush X (v := nI 200) dX5_init_14 (by decide) ?_
  refine g_newi X 12 0 (by rw [wup_ne (by omega), wup_ne (by omega)]; exact hC 12 0 (by decide) (by decide) (by omega)) (by decide +kernel) 200 (by decide) (by decide) (by decide) dX5_init_17 (fun q12 => ?_)
  generalize hal2 : aup al1 12 0 q12 = al2
  have e2_10 : al1 10 0 = al2 10 0 := by rw [← hal2]; rfl
  have e2_11 : al1 11 0 = al2 11 0 := by rw [← hal2]; rfl
  have hak2 : ∀ k i, ¬ (11 ≤ k ∧ k ≤ 25) → al2 k i = al k i := fun k i hk => by rw [← hal2, aup_ne (by omega)]; exact hak1 k i hk
  rw [e2_10, e2_11]
  refine g_putF X tyX5 tyX5_ok nmX5 10 0 (by rw [wup_ne (by omega), wup_self]) rfl 4 (by decide) hiX5 (by decide +kernel) rfl rfl hnm rfl (ty := .array .int) (by decide +kernel) rfl rfl (Nat.le_of_ble_eq_true rfl) _ (wup_3 (by decide)) dX5_init_19 ?_
  refine g_aload_n X 0 dX5_init_22 rfl rfl ?_
  refine g_iconst X (v := nI 1) dX5_init_23 (by decide) ?_
  refine g_put X tyX5 tyX5_ok nmX5 10 0 wup_self rfl 5 (by decide) hiX5 (by decide +kernel) rfl rfl (ty := .int) (by decide +kernel) rfl rfl (Nat.le_of_ble_eq_true rfl) _ wup_wup dX5_init_24 ?_
  refine g_aload_n X 0 dX5_init_27 rfl rfl ?_
  refine g_sipush X (v := nI 401) dX5_init_28 (by decide) ?_
  refine g_newi X 13 0 (by rw [wup_ne (by omega), wup_ne (by omega), wup_ne (by omega)]; exact hC 13 0 (by decide) (by decide) (by omega)) (by decide +kernel) 401 (by decide) (by decide) (by decide) dX5_init_31 (fun q13 => ?_)
  generalize hal3 : aup al2 13 0 q13 = al3
  have e3_10 : al2 10 0 = al3 10 0 := by rw [← hal3]; rfl
  have e3_11 : al2 11 0 = al3 11 0 := by rw [← hal3]; rfl
  have e3_12 : al2 12 0 = al3 12 0 := by rw [← hal3]; rfl
  have hak3 : ∀ k i, ¬ (11 ≤ k ∧ k ≤ 25) → al3 k i = al k i := fun k i hk => by rw [← hal3, aup_ne (by omega)]; exact hak2 k i hk
  rw [e3_10, e3_11, e3_12]
  refine g_putF X tyX5 tyX5_ok nmX5 10 0 (by rw [wup_ne (by omega), wup_self]) rfl 8 (by decide) hiX5 (by decide +kernel) rfl rfl hnm rfl (ty := .array .int) (by decide +kernel) rfl rfl (Nat.le_of_ble_eq_true rfl) _ (wup_3 (by decide)) dX5_init_33 ?_
  refine g_aload_n X 0 dX5_init_36 rfl rfl ?_
  refine g_sipush X (v := nI 401) dX5_init_37 (by decide) ?_
  refine g_newi X 14 0 (by rw [wup_ne (by omega), wup_ne (by omega), wup_ne (by omega), wup_ne (by omega)]; exact hC 14 0 (by decide) (by decide) (by omega)) (by decide +kernel) 401 (by decide) (by decide) (by decide) dX5_init_40 (fun q14 => ?_)
  generalize hal4 : aup al3 14 0 q14 = al4
  have e4_10 : al3 10 0 = al4 10 0 := by rw [← hal4]; rfl
  have e4_11 : al3 11 0 = al4 11 0 := by rw [← hal4]; rfl
  have e4_12 : al3 12 0 = al4 12 0 := by rw [← hal4]; rfl
  have e4_13 : al3 13 0 = al4 13 0 := by rw [← hal4]; rfl
  have hak4 : ∀ k i, ¬ (11 ≤ k ∧ k ≤ 25) → al4 k i = al k i := fun k i hk => by rw [← hal4, aup_ne (by omega)]; exact hak3 k i hk
  rw [e4_10, e4_11, e4_12, e4_13]
  refine g_putF X tyX5 tyX5_ok nmX5 10 0 (by rw [wup_ne (by omega), wup_self]) rfl 9 (by decide) hiX5 (by decide +kernel) rfl rfl hnm rfl (ty := .array .int) (by decide +kernel) rfl rfl (Nat.le_of_ble_eq_true rfl) _ (wup_3 (by decide)) dX5_init_42 ?_
  refine g_aload_n X 0 dX5_init_45 rfl rfl ?_
  refine g_sipush X (v := nI 401) dX5_init_46 (by decide) ?_
  refine g_newi X 15 0 (by rw [wup_ne (by omega), wup_ne (by omega), wup_ne (by omega), wup_ne (by omega), wup_ne (by omega)]; exact hC 15 0 (by decide) (by decide) (by omega)) (by decide +kernel) 401 (by decide) (by decide) (by decide) dX5_init_49 (fun q15 => ?_)
  generalize hal5 : aup al4 15 0 q15 = al5
  have e5_10 : al4 10 0 = al5 10 0 := by rw [← hal5]; rfl
  have e5_11 : al4 11 0 = al5 11 0 := by rw [← hal5]; rfl
  have e5_12 : al4 12 0 = al5 12 0 := by rw [← hal5]; rfl
  have e5_13 : al4 13 0 = al5 13 0 := by rw [← hal5]; rfl
  have e5_14 : al4 14 0 = al5 14 0 := by rw [← hal5]; rfl
  have hak5 : ∀ k i, ¬ (11 ≤ k ∧ k ≤ 25) → al5 k i = al k i := fun k i hk => by rw [← hal5, aup_ne (by omega)]; exact hak4 k i hk
  rw [e5_10, e5_11, e5_12, e5_13, e5_14]
  refine g_putF X tyX5 tyX5_ok nmX5 10 0 (by rw [wup_ne (by omega), wup_self]) rfl 10 (by decide) hiX5 (by decide +kernel) rfl rfl hnm rfl (ty := .array .int) (by decide +kernel) rfl rfl (Nat.le_of_ble_eq_true rfl) _ (wup_3 (by decide)) dX5_init_51 ?_
  refine g_aload_n X 0 dX5_init_54 rfl rfl ?_
  refine g_sipush X (v := nI 401) dX5_init_55 (by decide) ?_
  refine g_newi X 16 0 (by rw [wup_ne (by omega), wup_ne (by omega), wup_ne (by omega), wup_ne (by omega), wup_ne (by omega), wup_ne (by omega)]; exact hC 16 0 (by decide) (by decide) (by omega)) (by decide +kernel) 401 (by decide) (by decide) (by decide) dX5_init_58 (fun q16 => ?_)
  generalize hal6 : aup al5 16 0 q16 = al6
  have e6_10 : al5 10 0 = al6 10 0 := by rw [← hal6]; rfl
  have e6_11 : al5 11 0 = al6 11 0 := by rw [← hal6]; rfl
  have e6_12 : al5 12 0 = al6 12 0 := by rw [← hal6]; rfl
  have e6_13 : al5 13 0 = al6 13 0 := by rw [← hal6]; rfl
  have e6_14 : al5 14 0 = al6 14 0 := by rw [← hal6]; rfl
  have e6_15 : al5 15 0 = al6 15 0 := by rw [← hal6]; rfl
  have hak6 : ∀ k i, ¬ (11 ≤ k ∧ k ≤ 25) → al6 k i = al k i := fun k i hk => by rw [← hal6, aup_ne (by omega)]; exact hak5 k i hk
  rw [e6_10, e6_11, e6_12, e6_13, e6_14, e6_15]
  refine g_putF X tyX5 tyX5_ok nmX5 10 0 (by rw [wup_ne (by omega), wup_self]) rfl 11 (by decide) hiX5 (by decide +kernel) rfl rfl hnm rfl (ty := .array .int) (by decide +kernel) rfl rfl (Nat.le_of_ble_eq_true rfl) _ (wup_3 (by decide)) dX5_init_60 ?_
  refine g_aload_n X 0 dX5_init_63 rfl rfl ?_
  refine g_sipush X (v := nI 401) dX5_init_64 (by decide) ?_
  refine g_newi X 17 0 (by rw [wup_ne (by omega), wup_ne (by omega), wup_ne (by omega), wup_ne (by omega), wup_ne (by omega), wup_ne (by omega), wup_ne (by omega)]; exact hC 17 0 (by decide) (by decide) (by omega)) (by decide +kernel) 401 (by decide) (by decide) (by decide) dX5_init_67 (fun q17 => ?_)
  generalize hal7 : aup al6 17 0 q17 = al7
  have e7_10 : al6 10 0 = al7 10 0 := by rw [← hal7]; rfl
  have e7_11 : al6 11 0 = al7 11 0 := by rw [← hal7]; rfl
  have e7_12 : al6 12 0 = al7 12 0 := by rw [← hal7]; rfl
  have e7_13 : al6 13 0 = al7 13 0 := by rw [← hal7]; rfl
  have e7_14 : al6 14 0 = al7 14 0 := by rw [← hal7]; rfl
  have e7_15 : al6 15 0 = al7 15 0 := by rw [← hal7]; rfl
  have e7_16 : al6 16 0 = al7 16 0 := by rw [← hal7]; rfl
  have hak7 : ∀ k i, ¬ (11 ≤ k ∧ k ≤ 25) → al7 k i = al k i := fun k i hk => by rw [← hal7, aup_ne (by omega)]; exact hak6 k i hk
  rw [e7_10, e7_11, e7_12, e7_13, e7_14, e7_15, e7_16]
  refine g_putF X tyX5 tyX5_ok nmX5 10 0 (by rw [wup_ne (by omega), wup_self]) rfl 12 (by decide) hiX5 (by decide +kernel) rfl rfl hnm rfl (ty := .array .int) (by decide +kernel) rfl rfl (Nat.le_of_ble_eq_true rfl) _ (wup_3 (by decide)) dX5_init_69 ?_
  refine g_aload_n X 0 dX5_init_72 rfl rfl ?_
  refine g_sipush X (v := nI 401) dX5_init_73 (by decide) ?_
  refine g_newi X 18 0 (by rw [wup_ne (by omega), wup_ne (by omega), wup_ne (by omega), wup_ne (by omega), wup_ne (by omega), wup_ne (by omega), wup_ne (by omega), wup_ne (by omega)]; exact hC 18 0 (by decide) (by decide) (by omega)) (by decide +kernel) 401 (by decide) (by decide) (by decide) dX5_init_76 (fun q18 => ?_)
  generalize hal8 : aup al7 18 0 q18 = al8
  have e8_10 : al7 10 0 = al8 10 0 := by rw [← hal8]; rfl
  have e8_11 : al7 11 0 = al8 11 0 := by rw [← hal8]; rfl
  have e8_12 : al7 12 0 = al8 12 0 := by rw [← hal8]; rfl
  have e8_13 : al7 13 0 = al8 13 0 := by rw [← hal8]; rfl
  have e8_14 : al7 14 0 = al8 14 0 := by rw [← hal8]; rfl
  have e8_15 : al7 15 0 = al8 15 0 := by rw [← hal8]; rfl
  have e8_16 : al7 16 0 = al8 16 0 := by rw [← hal8]; rfl
  have e8_17 : al7 17 0 = al8 17 0 := by rw [← hal8]; rfl
  have hak8 : ∀ k i, ¬ (11 ≤ k ∧ k ≤ 25) → al8 k i = al k i := fun k i hk => by rw [← hal8, aup_ne (by omega)]; exact hak7 k i hk
  rw [e8_10, e8_11, e8_12, e8_13, e8_14, e8_15, e8_16, e8_17]
  refine g_putF X tyX5 tyX5_ok nmX5 10 0 (by rw [wup_ne (by omega), wup_self]) rfl 13 (by decide) hiX5 (by decide +kernel) rfl rfl hnm rfl (ty := .array .int) (by decide +kernel) rfl rfl (Nat.le_of_ble_eq_true rfl) _ (wup_3 (by decide)) dX5_init_78 ?_
  refine g_aload_n X 0 dX5_init_81 rfl rfl ?_
  refine g_iconst X (v := nI 4) dX5_init_82 (by decide) ?_
  refine g_newl X 19 0 (by rw [wup_ne (by omega), wup_ne (by omega), wup_ne (by omega), wup_ne (by omega), wup_ne (by omega), wup_ne (by omega), wup_ne (by omega), wup_ne (by omega), wup_ne (by omega)]; exact hC 19 0 (by decide) (by decide) (by omega)) (by decide +kernel) 4 (by decide) (by decide) (by decide) dX5_init_83 (fun q19 => ?_)
  generalize hal9 : aup al8 19 0 q19 = al9
  have e9_10 : al8 10 0 = al9 10 0 := by rw [← hal9]; rfl
  have e9_11 : al8 11 0 = al9 11 0 := by rw [← hal9]; rfl
  have e9_12 : al8 12 0 = al9 12 0 := by rw [← hal9]; rfl
  have e9_13 : al8 13 0 = al9 13 0 := by rw [← hal9]; rfl
  have e9_14 : al8 14 0 = al9 14 0 := by rw [← hal9]; rfl
  have e9_15 : al8 15 0 = al9 15 0 := by rw [← hal9]; rfl
  have e9_16 : al8 16 0 = al9 16 0 := by rw [← hal9]; rfl
  have e9_17 : al8 17 0 = al9 17 0 := by rw [← hal9]; rfl
  have e9_18 : al8 18 0 = al9 18 0 := by rw [← hal9]; rfl
  have hak9 : ∀ k i, ¬ (11 ≤ k ∧ k ≤ 25) → al9 k i = al k i := fun k i hk => by rw [← hal9, aup_ne (by omega)]; exact hak8 k i hk
  rw [e9_10, e9_11, e9_12, e9_13, e9_14, e9_15, e9_16, e9_17, e9_18]
  refine g_putF X tyX5 tyX5_ok nmX5 10 0 (by rw [wup_ne (by omega), wup_self]) rfl 14 (by decide) hiX5 (by decide +kernel) rfl rfl hnm rfl (ty := .array .long) (by decide +kernel) rfl rfl (Nat.le_of_ble_eq_true rfl) _ (wup_3 (by decide)) dX5_init_85 ?_
  refine g_aload_n X 0 dX5_init_88 rfl rfl ?_
  refine g_bipush X (v := nI 16) dX5_init_89 (by decide) ?_
  refine g_newi X 20 0 (by rw [wup_ne (by omega), wup_ne (by omega), wup_ne (by omega), wup_ne (by omega), wup_ne (by omega), wup_ne (by omega), wup_ne (by omega), wup_ne (by omega), wup_ne (by omega), wup_ne (by omega)]; exact hC 20 0 (by decide) (by decide) (by omega)) (by decide +kernel) 16 (by decide) (by decide) (by decide) dX5_init_91 (fun q20 => ?_)
  generalize hal10 : aup al9 20 0 q20 = al10
  have e10_10 : al9 10 0 = al10 10 0 := by rw [← hal10]; rfl
  have e10_11 : al9 11 0 = al10 11 0 := by rw [← hal10]; rfl
  have e10_12 : al9 12 0 = al10 12 0 := by rw [← hal10]; rfl
  have e10_13 : al9 13 0 = al10 13 0 := by rw [← hal10]; rfl
  have e10_14 : al9 14 0 = al10 14 0 := by rw [← hal10]; rfl
  have e10_15 : al9 15 0 = al10 15 0 := by rw [← hal10]; rfl
  have e10_16 : al9 16 0 = al10 16 0 := by rw [← hal10]; rfl
  have e10_17 : al9 17 0 = al10 17 0 := by rw [← hal10]; rfl
  have e10_18 : al9 18 0 = al10 18 0 := by rw [← hal10]; rfl
  have e10_19 : al9 19 0 = al10 19 0 := by rw [← hal10]; rfl
  have hak10 : ∀ k i, ¬ (11 ≤ k ∧ k ≤ 25) → al10 k i = al k i := fun k i hk => by rw [← hal10, aup_ne (by omega)]; exact hak9 k i hk
  rw [e10_10, e10_11, e10_12, e10_13, e10_14, e10_15, e10_16, e10_17, e10_18, e10_19]
  refine g_putF X tyX5 tyX5_ok nmX5 10 0 (by rw [wup_ne (by omega), wup_self]) rfl 15 (by decide) hiX5 (by decide +kernel) rfl rfl hnm rfl (ty := .array .int) (by decide +kernel) rfl rfl (Nat.le_of_ble_eq_true rfl) _ (wup_3 (by decide)) dX5_init_93 ?_
  refine g_aload_n X 0 dX5_init_96 rfl rfl ?_
  refine g_bipush X (v := nI 16) dX5_init_97 (by decide) ?_
  refine g_newz X 21 0 (by rw [wup_ne (by omega), wup_ne (by omega), wup_ne (by omega), wup_ne (by omega), wup_ne (by omega), wup_ne (by omega), wup_ne (by omega), wup_ne (by omega), wup_ne (by omega), wup_ne (by omega), wup_ne (by omega)]; exact hC 21 0 (by decide) (by decide) (by omega)) (by decide +kernel) 16 (by decide) (by decide) (by decide) dX5_init_99 (fun q21 => ?_)
  generalize hal11 : aup al10 21 0 q21 = al11
  have e11_10 : al10 10 0 = al11 10 0 := by rw [← hal11]; rfl
  have e11_11 : al10 11 0 = al11 11 0 := by rw [← hal11]; rfl
  have e11_12 : al10 12 0 = al11 12 0 := by rw [← hal11]; rfl
  have e11_13 : al10 13 0 = al11 13 0 := by rw [← hal11]; rfl
  have e11_14 : al10 14 0 = al11 14 0 := by rw [← hal11]; rfl
  have e11_15 : al10 15 0 = al11 15 0 := by rw [← hal11]; rfl
  have e11_16 : al10 16 0 = al11 16 0 := by rw [← hal11]; rfl
  have e11_17 : al10 17 0 = al11 17 0 := by rw [← hal11]; rfl
  have e11_18 : al10 18 0 = al11 18 0 := by rw [← hal11]; rfl
  have e11_19 : al10 19 0 = al11 19 0 := by rw [← hal11]; rfl
  have e11_20 : al10 20 0 = al11 20 0 := by rw [← hal11]; rfl
  have hak11 : ∀ k i, ¬ (11 ≤ k ∧ k ≤ 25) → al11 k i = al k i := fun k i hk => by rw [← hal11, aup_ne (by omega)]; exact hak10 k i hk
  rw [e11_10, e11_11, e11_12, e11_13, e11_14, e11_15, e11_16, e11_17, e11_18, e11_19, e11_20]
  refine g_putF X tyX5 tyX5_ok nmX5 10 0 (by rw [wup_ne (by omega), wup_self]) rfl 16 (by decide) hiX5 (by decide +kernel) rfl rfl hnm rfl (ty := .array .boolean) (by decide +kernel) rfl rfl (Nat.le_of_ble_eq_true rfl) _ (wup_3 (by decide)) dX5_init_101 ?_
  refine g_aload_n X 0 dX5_init_104 rfl rfl ?_
  refine g_sipush X (v := nI 400) dX5_init_105 (by decide) ?_
  refine g_newi X 22 0 (by rw [wup_ne (by omega), wup_ne (by omega), wup_ne (by omega), wup_ne (by omega), wup_ne (by omega), wup_ne (by omega), wup_ne (by omega), wup_ne (by omega), wup_ne (by omega), wup_ne (by omega), wup_ne (by omega), wup_ne (by omega)]; exact hC 22 0 (by decide) (by decide) (by omega)) (by decide +kernel) 400 (by decide) (by decide) (by decide) dX5_init_108 (fun q22 => ?_)
  generalize hal12 : aup al11 22 0 q22 = al12
  have e12_10 : al11 10 0 = al12 10 0 := by rw [← hal12]; rfl
  have e12_11 : al11 11 0 = al12 11 0 := by rw [← hal12]; rfl
  have e12_12 : al11 12 0 = al12 12 0 := by rw [← hal12]; rfl
  have e12_13 : al11 13 0 = al12 13 0 := by rw [← hal12]; rfl
  have e12_14 : al11 14 0 = al12 14 0 := by rw [← hal12]; rfl
  have e12_15 : al11 15 0 = al12 15 0 := by rw [← hal12]; rfl
  have e12_16 : al11 16 0 = al12 16 0 := by rw [← hal12]; rfl
  have e12_17 : al11 17 0 = al12 17 0 := by rw [← hal12]; rfl
  have e12_18 : al11 18 0 = al12 18 0 := by rw [← hal12]; rfl
  have e12_19 : al11 19 0 = al12 19 0 := by rw [← hal12]; rfl
  have e12_20 : al11 20 0 = al12 20 0 := by rw [← hal12]; rfl
  have e12_21 : al11 21 0 = al12 21 0 := by rw [← hal12]; rfl
  have hak12 : ∀ k i, ¬ (11 ≤ k ∧ k ≤ 25) → al12 k i = al k i := fun k i hk => by rw [← hal12, aup_ne (by omega)]; exact hak11 k i hk
  rw [e12_10, e12_11, e12_12, e12_13, e12_14, e12_15, e12_16, e12_17, e12_18, e12_19, e12_20, e12_21]
  refine g_putF X tyX5 tyX5_ok nmX5 10 0 (by rw [wup_ne (by omega), wup_self]) rfl 18 (by decide) hiX5 (by decide +kernel) rfl rfl hnm rfl (ty := .array .int) (by decide +kernel) rfl rfl (Nat.le_of_ble_eq_true rfl) _ (wup_3 (by decide)) dX5_init_110 ?_
  refine g_aload_n X 0 dX5_init_113 rfl rfl ?_
  refine g_sipush X (v := nI 400) dX5_init_114 (by decide) ?_
  refine g_newi X 23 0 (by rw [wup_ne (by omega), wup_ne (by omega), wup_ne (by omega), wup_ne (by omega), wup_ne (by omega), wup_ne (by omega), wup_ne (by omega), wup_ne (by omega), wup_ne (by omega), wup_ne (by omega), wup_ne (by omega), wup_ne (by omega), wup_ne (by omega)]; exact hC 23 0 (by decide) (by decide) (by omega)) (by decide +kernel) 400 (by decide) (by decide) (by decide) dX5_init_117 (fun q23 => ?_)
  generalize hal13 : aup al12 23 0 q23 = al13
  have e13_10 : al12 10 0 = al13 10 0 := by rw [← hal13]; rfl
  have e13_11 : al12 11 0 = al13 11 0 := by rw [← hal13]; rfl
  have e13_12 : al12 12 0 = al13 12 0 := by rw [← hal13]; rfl
  have e13_13 : al12 13 0 = al13 13 0 := by rw [← hal13]; rfl
  have e13_14 : al12 14 0 = al13 14 0 := by rw [← hal13]; rfl
  have e13_15 : al12 15 0 = al13 15 0 := by rw [← hal13]; rfl
  have e13_16 : al12 16 0 = al13 16 0 := by rw [← hal13]; rfl
  have e13_17 : al12 17 0 = al13 17 0 := by rw [← hal13]; rfl
  have e13_18 : al12 18 0 = al13 18 0 := by rw [← hal13]; rfl
  have e13_19 : al12 19 0 = al13 19 0 := by rw [← hal13]; rfl
  have e13_20 : al12 20 0 = al13 20 0 := by rw [← hal13]; rfl
  have e13_21 : al12 21 0 = al13 21 0 := by rw [← hal13]; rfl
  have e13_22 : al12 22 0 = al13 22 0 := by rw [← hal13]; rfl
  have hak13 : ∀ k i, ¬ (11 ≤ k ∧ k ≤ 25) → al13 k i = al k i := fun k i hk => by rw [← hal13, aup_ne (by omega)]; exact hak12 k i hk
  rw [e13_10, e13_11, e13_12, e13_13, e13_14, e13_15, e13_16, e13_17, e13_18, e13_19, e13_20, e13_21, e13_22]
  refine g_putF X tyX5 tyX5_ok nmX5 10 0 (by rw [wup_ne (by omega), wup_self]) rfl 19 (by decide) hiX5 (by decide +kernel) rfl rfl hnm rfl (ty := .array .int) (by decide +kernel) rfl rfl (Nat.le_of_ble_eq_true rfl) _ (wup_3 (by decide)) dX5_init_119 ?_
  refine g_aload_n X 0 dX5_init_122 rfl rfl ?_
  refine g_sipush X (v := nI 400) dX5_init_123 (by decide) ?_
  refine g_newi X 24 0 (by rw [wup_ne (by omega), wup_ne (by omega), wup_ne (by omega), wup_ne (by omega), wup_ne (by omega), wup_ne (by omega), wup_ne (by omega), wup_ne (by omega), wup_ne (by omega), wup_ne (by omega), wup_ne (by omega), wup_ne (by omega), wup_ne (by omega), wup_ne (by omega)]; exact hC 24 0 (by decide) (by decide) (by omega)) (by decide +kernel) 400 (by decide) (by decide) (by decide) dX5_init_126 (fun q24 => ?_)
  generalize hal14 : aup al13 24 0 q24 = al14
  have e14_10 : al13 10 0 = al14 10 0 := by rw [← hal14]; rfl
  have e14_11 : al13 11 0 = al14 11 0 := by rw [← hal14]; rfl
  have e14_12 : al13 12 0 = al14 12 0 := by rw [← hal14]; rfl
  have e14_13 : al13 13 0 = al14 13 0 := by rw [← hal14]; rfl
  have e14_14 : al13 14 0 = al14 14 0 := by rw [← hal14]; rfl
  have e14_15 : al13 15 0 = al14 15 0 := by rw [← hal14]; rfl
  have e14_16 : al13 16 0 = al14 16 0 := by rw [← hal14]; rfl
  have e14_17 : al13 17 0 = al14 17 0 := by rw [← hal14]; rfl
  have e14_18 : al13 18 0 = al14 18 0 := by rw [← hal14]; rfl
  have e14_19 : al13 19 0 = al14 19 0 := by rw [← hal14]; rfl
  have e14_20 : al13 20 0 = al14 20 0 := by rw [← hal14]; rfl
  have e14_21 : al13 21 0 = al14 21 0 := by rw [← hal14]; rfl
  have e14_22 : al13 22 0 = al14 22 0 := by rw [← hal14]; rfl
  have e14_23 : al13 23 0 = al14 23 0 := by rw [← hal14]; rfl
  have hak14 : ∀ k i, ¬ (11 ≤ k ∧ k ≤ 25) → al14 k i = al k i := fun k i hk => by rw [← hal14, aup_ne (by omega)]; exact hak13 k i hk
  rw [e14_10, e14_11, e14_12, e14_13, e14_14, e14_15, e14_16, e14_17, e14_18, e14_19, e14_20, e14_21, e14_22, e14_23]
  refine g_putF X tyX5 tyX5_ok nmX5 10 0 (by rw [wup_ne (by omega), wup_self]) rfl 20 (by decide) hiX5 (by decide +kernel) rfl rfl hnm rfl (ty := .array .int) (by decide +kernel) rfl rfl (Nat.le_of_ble_eq_true rfl) _ (wup_3 (by decide)) dX5_init_128 ?_
  refine g_aload_n X 0 dX5_init_131 rfl rfl ?_
  refine g_iconst X (v := nI 4) dX5_init_132 (by decide) ?_
  refine g_newz X 25 0 (by rw [wup_ne (by omega), wup_ne (by omega), wup_ne (by omega), wup_ne (by omega), wup_ne (by omega), wup_ne (by omega), wup_ne (by omega), wup_ne (by omega), wup_ne (by omega), wup_ne (by omega), wup_ne (by omega), wup_ne (by omega), wup_ne (by omega), wup_ne (by omega), wup_ne (by omega)]; exact hC 25 0 (by decide) (by decide) (by omega)) (by decide +kernel) 4 (by decide) (by decide) (by decide) dX5_init_133 (fun q25 => ?_)
  generalize hal15 : aup al14 25 0 q25 = al15
  have e15_10 : al14 10 0 = al15 10 0 := by rw [← hal15]; rfl
  have e15_11 : al14 11 0 = al15 11 0 := by rw [← hal15]; rfl
  have e15_12 : al14 12 0 = al15 12 0 := by rw [← hal15]; rfl
  have e15_13 : al14 13 0 = al15 13 0 := by rw [← hal15]; rfl
  have e15_14 : al14 14 0 = al15 14 0 := by rw [← hal15]; rfl
  have e15_15 : al14 15 0 = al15 15 0 := by rw [← hal15]; rfl
  have e15_16 : al14 16 0 = al15 16 0 := by rw [← hal15]; rfl
  have e15_17 : al14 17 0 = al15 17 0 := by rw [← hal15]; rfl
  have e15_18 : al14 18 0 = al15 18 0 := by rw [← hal15]; rfl
  have e15_19 : al14 19 0 = al15 19 0 := by rw [← hal15]; rfl
  have e15_20 : al14 20 0 = al15 20 0 := by rw [← hal15]; rfl
  have e15_21 : al14 21 0 = al15 21 0 := by rw [← hal15]; rfl
  have e15_22 : al14 22 0 = al15 22 0 := by rw [← hal15]; rfl
  have e15_23 : al14 23 0 = al15 23 0 := by rw [← hal15]; rfl
  have e15_24 : al14 24 0 = al15 24 0 := by rw [← hal15]; rfl
  have hak15 : ∀ k i, ¬ (11 ≤ k ∧ k ≤ 25) → al15 k i = al k i := fun k i hk => by rw [← hal15, aup_ne (by omega)]; exact hak14 k i hk
  rw [e15_10, e15_11, e15_12, e15_13, e15_14, e15_15, e15_16, e15_17, e15_18, e15_19, e15_20, e15_21, e15_22, e15_23, e15_24]
  refine g_putF X tyX5 tyX5_ok nmX5 10 0 (by rw [wup_ne (by omega), wup_self]) rfl 21 (by decide) hiX5 (by decide +kernel) rfl rfl hnm rfl (ty := .array .boolean) (by decide +kernel) rfl rfl (Nat.le_of_ble_eq_true rfl) _ (wup_3 (by decide)) dX5_init_135 ?_
  refine g_wo (mini hC) ?_
  exact l_minit0 X hnm hak15 x y hx hy
end
section
theorem Iv_of {u u' : St} (h : Iv u) (e : ∀ f j, f ≠ 1 → f ≠ 6 → f ≠ 13 → f ≠ 14 → f ≠ 18 → f ≠ 19 → f ≠ 25 → f ≠ 26 → f ≠ 27 → u' f j = u f j) : Iv u' := by
  have e' : ∀ f j, (f = 0 ∨ f = 2 ∨ f = 3 ∨ f = 4 ∨ f = 5 ∨ f = 7 ∨ f = 8 ∨ f = 9 ∨ f = 10 ∨ f = 12 ∨ f = 21 ∨ f = 22 ∨ f = 23 ∨ f = 24 ∨ 30 ≤ f) → u' f j = u f j := fun f j hf => e f j (by omega) (by omega) (by omega) (by omega) (by omega) (by omega) (by omega) (by omega) (by omega)
  have e0 : ∀ j, u' 0 j = u 0 j := fun j => e' 0 j (by omega)
  have e2 : ∀ j, u' 2 j = u 2 j := fun j => e' 2 j (by omega)
  have e3 : ∀ j, u' 3 j = u 3 j := fun j => e' 3 j (by omega)
  have e4 : ∀ j, u' 4 j = u 4 j := fun j => e' 4 j (by omega)
  have e5 : ∀ j, u' 5 j = u 5 j := fun j => e' 5 j (by omega)
  have e7 : ∀ j, u' 7 j = u 7 j := fun j => e' 7 j (by omega)
  have e8 : ∀ j, u' 8 j = u 8 j := fun j => e' 8 j (by omega)
  have e9 : ∀ j, u' 9 j = u 9 j := fun j => e' 9 j (by omega)
  have e10 : ∀ j, u' 10 j = u 10 j := fun j => e' 10 j (by omega)
  have e12 : ∀ j, u' 12 j = u 12 j := fun j => e' 12 j (by omega)
  have e21 : ∀ j, u' 21 j = u 21 j := fun j => e' 21 j (by omega)
  have e22 : ∀ j, u' 22 j = u 22 j := fun j => e' 22 j (by omega)
  have e23 : ∀ j, u' 23 j = u 23 j := fun j => e' 23 j (by omega)
  have e24 : ∀ j, u' 24 j = u 24 j := fun j => e' 24 j (by omega)
  have e30 : ∀ j, u' 30 j = u 30 j := fun j => e' 30 j (by omega)
  have e31 : ∀ j, u' 31 j = u 31 j := fun j => e' 31 j (by omega)
  have e40 : ∀ n j, u' (40 + n) j = u (40 + n) j := fun n j => e' (40 + n) j (by omega)
  have eo : onL u' = onL u := by funext i; simp [onL, e23]
  have ei : isOut u' = isOut u := by funext i; simp [isOut, e23]
  have eb : ∀ t, tB u' t = tB u t := fun t => by simp [tB, e0]
  obtain ⟨h1, h2, h3, h4, h5, h6⟩ := h
  refine ⟨?_, ?_, ?_, ?_, ?_, ?_⟩
  · unfold Iv1 at *; simp only [e0, e7, e2, e30, e5]; exact h1
  · unfold Iv2 at *; simp only [e0, e2, e21, e22, e23, e24, e31]; exact h2
  · unfold Iv3 at *; simp only [e8, e2, e23, e24, e21, eb]; exact h3
  · unfold Iv4 at *; simp only [e4, e3, e2, eo, ei, e23, e10]; exact h4
  · unfold Iv5 at *; simp only [e12, e40, e2, e23, e31]; exact h5
  · unfold Iv6 at *; simp only [e9, e2, e10, e3]; exact h6
theorem Iv_had' {u : St} (h : Iv u) {n x : Nat} : Iv (st u 14 n x) := Iv_of h (fun f j _ _ _ h14 _ _ _ _ _ => st_nf h14)
theorem Iv_time' {u : St} (h : Iv u) {x : Nat} : Iv (st u 6 0 x) := Iv_of h (fun f j _ h6 _ _ _ _ _ _ _ => st_nf h6)
theorem Iv_rnd {u : St} (h : Iv u) {i x : Nat} : Iv (st u 25 i x) := Iv_of h (fun f j _ _ _ _ _ _ h25 _ _ => st_nf h25)
theorem Iv_shift' {u : St} (h : Iv u) : Iv (shf u) := by
  have e : ∀ f j, f ≠ 7 → shf u f j = u f j := fun f j hf => st_nf hf
  have e7 : shf u 7 0 = if u 7 0 + 1 < u 0 0 then u 7 0 + 1 else 0 := st_self
  have eo : onL (shf u) = onL u := by funext i; simp [onL, e]
  have ei : isOut (shf u) = isOut u := by funext i; simp [isOut, e]
  have eb : ∀ t, tB (shf u) t = tB u t := fun t => by simp [tB, e]
  obtain ⟨h1, h2, h3, h4, h5, h6⟩ := h
  refine ⟨?_, ?_, ?_, ?_, ?_, ?_⟩
  · unfold Iv1 at *
    rw [e7, e 0 0 (by decide), e 2 0 (by decide), e 30 0 (by decide), e 5 0 (by decide)]
    obtain ⟨a, b, c, d⟩ := h1
    refine ⟨a, b, ?_, d⟩
    split <;> omega
  · unfold Iv2 at *; simp (disch := decide) only [e]; exact h2
  · unfold Iv3 at *; simp (disch := decide) only [e, eb]; exact h3
  · unfold Iv4 at *; simp (disch := decide) only [e, eo, ei]; exact h4
  · unfold Iv5 at *; simp (disch := omega) only [e]; exact h5
  · unfold Iv6 at *; simp (disch := decide) only [e]; exact h6
theorem cnt_upd {f g : Nat → Nat} {i : Nat} (h : ∀ j, j ≠ i → g j = f j) : ∀ n, 1 ≤ i → i ≤ n → cnt g n + f i = cnt f n + g i := by
  have low : ∀ n, n < i → cnt g n = cnt f n := by
    intro n
    induction n with
    | zero => intro _; rfl
    | succ n ih => intro hn; show cnt g n + g (n + 1) = cnt f n + f (n + 1); rw [ih (by omega), h _ (by omega)]
  intro n
  induction n with
  | zero => intro h1 h2; omega
  | succ n ih =>
    intro h1 h2
    show cnt g n + g (n + 1) + f i = cnt f n + f (n + 1) + g i
    by_cases hq : i = n + 1
    · subst hq; rw [low n (by omega)]; omega
    · have := ih h1 (by omega); rw [h (n + 1) (fun z => hq z.symm)]; omega
theorem cnt_same {f g : Nat → Nat} (h : ∀ j, g j = f j) (n : Nat) : cnt g n = cnt f n := by rw [show g = f from funext h]
/-- the trays behind setTr -/
theorem setTr_8 {u : St} {i x t : Nat} (hl : u 21 i ≤ 2) : setTr u i x 8 t = if t = u 24 i ∨ (u 21 i = 2 ∧ t = tB u (u 24 i)) then x else u 8 t := by
  unfold setTr
  have e1 : st u 8 (u 24 i) x 21 i = u 21 i := st_nf (by decide)
  have e2 : st u 8 (u 24 i) x 24 i = u 24 i := st_nf (by decide)
  have e3 : ∀ t, tB (st u 8 (u 24 i) x) t = tB u t := fun t => by simp [tB, st]
  rw [e1, e2, e3]
  have hq : nI (u 21 i) = nI 2 ↔ u 21 i = 2 := nI_eq (by omega) (by decide)
  by_cases h : u 21 i = 2
  · rw [if_pos (hq.mpr h)]
    by_cases ha : t = tB u (u 24 i)
    · rw [ha, st_self]; simp [h]
    · rw [st_ni ha]
      by_cases hb : t = u 24 i
      · rw [hb, st_self]; simp
      · rw [st_ni hb]; simp [ha, hb]
  · rw [if_neg (fun z => h (hq.mp z))]
    by_cases hb : t = u 24 i
    · rw [hb, st_self]; simp
    · rw [st_ni hb]; simp [h, hb]
theorem lo_8 {u : St} {i c t : Nat} : letOut u i c 8 t = setTr u i 0 8 t := by simp [letOut, st]
theorem lo_4 {u : St} {i c : Nat} : letOut u i c 4 0 = u 4 0 - 1 := by simp [letOut, st, setTr_ne]
theorem lo_3 {u : St} {i c : Nat} : letOut u i c 3 0 = u 3 0 + 1 := by simp [letOut, st, setTr_ne]
theorem lo_23 {u : St} {i c j : Nat} : letOut u i c 23 j = if j = i then 3 else u 23 j := by simp [letOut, st, setTr_ne]
theorem lo_10 {u : St} {i c j : Nat} : letOut u i c 10 j = if j = u 3 0 then i else u 10 j := by simp [letOut, st, setTr_ne]
theorem lo_18 {u : St} {i c j : Nat} : letOut u i c 18 j = if j = c then u 18 c + 1 else u 18 j := by simp [letOut, st, setTr_ne]
theorem lo_26 {u : St} {i c j : Nat} : letOut u i c 26 j = if j = i then c else u 26 j := by simp [letOut, st, setTr_ne]
theorem lo_27 {u : St} {i c j : Nat} : letOut u i c 27 j = if j = i then u 6 0 else u 27 j := by simp [letOut, st, setTr_ne]
theorem lo_k {u : St} {i c f j : Nat} (h : f ≠ 8 ∧ f ≠ 4 ∧ f ≠ 3 ∧ f ≠ 23 ∧ f ≠ 10 ∧ f ≠ 18 ∧ f ≠ 26 ∧ f ≠ 27) : letOut u i c f j = u f j := by
  simp [letOut, st, setTr_ne, h]
theorem Iv_letOut {u : St} (h : Iv u) {i c : Nat} (h1 : 1 ≤ i) (h2 : i ≤ u 2 0) (h3 : u 23 i = 1) : Iv (letOut u i c) := by
  have hc := h.carry h1 h2 h3
  obtain ⟨i1, i2, i3, ⟨i4, i4', i7⟩, i5, i6⟩ := h
  have k : ∀ f j, (f = 0 ∨ f = 2 ∨ f = 5 ∨ f = 7 ∨ f = 9 ∨ f = 12 ∨ f = 21 ∨ f = 22 ∨ f = 24 ∨ 30 ≤ f) → letOut u i c f j = u f j := fun f j hf => lo_k (by omega)
  have hl := (i2 i h1 h2).2.2.2.1
  have eb : ∀ t, tB (letOut u i c) t = tB u t := fun t => by simp [tB, k]
  refine ⟨?_, ?_, ?_, ⟨?_, ?_, ?_⟩, ?_, ?_⟩
  · unfold Iv1 at *
    rw [k 0 0 (by omega), k 2 0 (by omega), k 30 0 (by omega), k 5 0 (by omega), k 7 0 (by omega)]; exact i1
  · intro j a b
    rw [k 2 0 (by omega)] at b
    rw [lo_23, k 22 j (by omega), k 21 j (by omega), k 24 j (by omega), k 0 0 (by omega), k 31 j (by omega)]
    have := i2 j a b
    refine ⟨?_, this.2⟩
    split
    · omega
    · exact this.1
  · intro t
    rw [lo_8, setTr_8 hl, k 2 0 (by omega)]
    obtain ⟨a, b⟩ := i3 t
    split
    · exact ⟨Nat.zero_le _, fun z => absurd rfl z⟩
    · rename_i hn
      refine ⟨a, fun z => ?_⟩
      obtain ⟨b1, b2⟩ := b z
      have hne : u 8 t ≠ i := fun y => by rw [y] at b2; exact hn b2
      rw [lo_23, if_neg hne, k 24 _ (by omega), k 21 _ (by omega), eb]
      exact ⟨b1, b2⟩
  · rw [lo_4, k 2 0 (by omega)]
    have := cnt_upd (f := onL u) (g := onL (letOut u i c)) (i := i) (fun j hj => by unfold onL; rw [lo_23, if_neg hj]) (u 2 0) h1 h2
    have a1 : onL u i = 1 := by unfold onL; rw [if_pos (Or.inl h3)]
    have a2 : onL (letOut u i c) i = 0 := by unfold onL; rw [lo_23, if_pos rfl]; rfl
    rw [a1, a2] at this
    omega
  · rw [lo_3, k 2 0 (by omega)]
    have := cnt_upd (f := isOut u) (g := isOut (letOut u i c)) (i := i) (fun j hj => by unfold isOut; rw [lo_23, if_neg hj]) (u 2 0) h1 h2
    have a1 : isOut u i = 0 := by unfold isOut; rw [if_neg (by omega)]
    have a2 : isOut (letOut u i c) i = 1 := by unfold isOut; rw [lo_23, if_pos rfl]; rfl
    rw [a1, a2] at this
    omega
  · intro j hj
    rw [lo_3] at hj
    rw [lo_10, lo_23]
    by_cases hg : j = u 3 0
    · rw [if_pos hg, if_pos rfl]
    · rw [if_neg hg]
      split
      · rfl
      · exact i7 j (by omega)
  · intro n a b
    have e40 : ∀ j, letOut u i c (40 + n) j = u (40 + n) j := fun j => k (40 + n) j (by omega)
    obtain ⟨r1, r2, r3, r4, r5⟩ := i5 n a b
    rw [k 12 n (by omega)]
    simp only [e40]
    refine ⟨r1, fun j => by rw [k 2 0 (by omega)]; exact r2 j, fun j hj => ?_, r4, fun j ja jb jc jd => ?_⟩
    · obtain ⟨s1, s2, s3⟩ := r3 j hj
      have hne : u (40 + n) j ≠ i := fun y => by rw [y] at s2; omega
      rw [lo_23, if_neg hne, k 31 _ (by omega)]
      exact ⟨s1, s2, s3⟩
    · rw [k 2 0 (by omega)] at jb
      rw [lo_23] at jc
      rw [k 31 j (by omega)] at jd
      by_cases hj : j = i
      · rw [if_pos hj] at jc; omega
      · rw [if_neg hj] at jc; exact r5 j ja jb jc jd
  · refine ⟨fun j => by rw [k 9 j (by omega), k 2 0 (by omega)]; exact i6.1 j, fun j => ?_⟩
    rw [lo_10, lo_3, k 2 0 (by omega)]
    split
    · exact ⟨h2, fun _ => h1⟩
    · exact ⟨(i6.2 j).1, fun hj => (i6.2 j).2 (by omega)⟩
theorem Iv_passOne' {u : St} (h : Iv u) {c : Nat} : Iv (passOne u c) := by
  unfold passOne
  split
  · rename_i hp
    obtain ⟨p1, p2, p3⟩ := hp
    have hb := (h.2.2.1 (tA u (pos6 u c))).1
    unfold passC
    split
    · exact h
    · split
      · exact Iv_letOut h (by omega) hb p3
      · split
        · exact Iv_rnd h
        · exact h
  · exact h
theorem rowUp_lo {n k : Nat} {u : St} {j : Nat} (h : j < k) : rowUp n k u (40 + n) j = u (40 + n) (j + 1) := by
  induction k with
  | zero => omega
  | succ k ih =>
    show st _ _ _ _ _ j = _
    by_cases hj : j = k
    · subst hj; rw [st_self, rowUp_hi (by omega)]
    · rw [st_ni hj, ih (by omega)]
theorem rm_12 {u : St} {n m : Nat} : remF u n 12 m = if m = n then u 12 n - 1 else u 12 m := by
  show st _ _ _ _ 12 m = _
  rw [st_nf (by omega), rowUp_k (by omega)]
  by_cases h : m = n
  · subst h; rw [st_self, if_pos rfl]
  · rw [st_ni h, if_neg h]
theorem rm_row {u : St} {n j : Nat} : remF u n (40 + n) j = if j < u 12 n - 1 then u (40 + n) (j + 1) else if j = u 12 n - 1 then 0 else u (40 + n) j := by
  show st (rowUp n (st u 12 n (u 12 n - 1) 12 n) (st u 12 n (u 12 n - 1))) (40 + n) (st u 12 n (u 12 n - 1) 12 n) 0 (40 + n) j = _
  rw [st_self]
  by_cases h : j = u 12 n - 1
  · rw [h, st_self]; simp
  · rw [st_ni h]
    by_cases hl : j < u 12 n - 1
    · rw [if_pos hl, rowUp_lo hl, st_nf (by omega)]
    · rw [if_neg hl, if_neg h, rowUp_hi (by omega), st_nf (by omega)]
/-- putF where it puts -/
def pG (u : St) (n : Nat) : St :=
  let i := u (40 + n) 0
  let t := tA u (pos3 u n)
  let u1 := remF u n
  let u2 := st u1 13 n (u1 13 n + 1)
  let u3 := st u2 24 i t
  let u4 := st u3 23 i 1
  let u5 := setTr u4 i i
  st u5 4 0 (u5 4 0 + 1)
theorem putF_c {u : St} {n : Nat} (h1 : u 12 n ≠ 0) (h2 : freeFor u (u (40 + n) 0) (tA u (pos3 u n))) : putF u n = pG u n := by
  rw [putF, if_neg h1, if_pos h2]; rfl
theorem pG_eq {u : St} {n : Nat} : pG u n = st (setTr (st (st (st (remF u n) 13 n (remF u n 13 n + 1)) 24 (u (40 + n) 0) (tA u (pos3 u n))) 23 (u (40 + n) 0) 1) (u (40 + n) 0) (u (40 + n) 0)) 4 0 (setTr (st (st (st (remF u n) 13 n (remF u n 13 n + 1)) 24 (u (40 + n) 0) (tA u (pos3 u n))) 23 (u (40 + n) 0) 1) (u (40 + n) 0) (u (40 + n) 0) 4 0 + 1) := rfl
theorem pG_k {u : St} {n f j : Nat} (h : f ≠ 8 ∧ f ≠ 4 ∧ f ≠ 23 ∧ f ≠ 24 ∧ f ≠ 13 ∧ f ≠ 12 ∧ f ≠ 40 + n) : pG u n f j = u f j := by
  rw [pG_eq]
  rw [st_nf h.2.1, setTr_ne h.1, st_nf h.2.2.1, st_nf h.2.2.2.1, st_nf h.2.2.2.2.1, remF_k h.2.2.2.2.2.2 h.2.2.2.2.2.1]
theorem pG_12 {u : St} {n m : Nat} : pG u n 12 m = if m = n then u 12 n - 1 else u 12 m := by
  rw [pG_eq]
  rw [st_nf (by decide), setTr_ne (by decide), st_nf (by decide), st_nf (by decide), st_nf (by decide), rm_12]
theorem pG_row {u : St} {n j : Nat} : pG u n (40 + n) j = if j < u 12 n - 1 then u (40 + n) (j + 1) else if j = u 12 n - 1 then 0 else u (40 + n) j := by
  rw [pG_eq]
  rw [st_nf (by omega), setTr_ne (by omega), st_nf (by omega), st_nf (by omega), st_nf (by omega), rm_row]
theorem pG_4 {u : St} {n : Nat} : pG u n 4 0 = u 4 0 + 1 := by
  rw [pG_eq]
  rw [st_self, setTr_ne (by decide), st_nf (by decide), st_nf (by decide), st_nf (by decide), remF_k (by omega) (by decide)]
theorem pG_23 {u : St} {n j : Nat} : pG u n 23 j = if j = u (40 + n) 0 then 1 else u 23 j := by
  rw [pG_eq]
  rw [st_nf (by decide), setTr_ne (by decide)]
  by_cases h : j = u (40 + n) 0
  · rw [h, st_self, if_pos rfl]
  · rw [st_ni h, if_neg h, st_nf (by decide), st_nf (by decide), remF_k (by omega) (by decide)]
theorem pG_24 {u : St} {n j : Nat} : pG u n 24 j = if j = u (40 + n) 0 then tA u (pos3 u n) else u 24 j := by
  rw [pG_eq]
  rw [st_nf (by decide), setTr_ne (by decide), st_nf (by decide)]
  by_cases h : j = u (40 + n) 0
  · rw [h, st_self, if_pos rfl]
  · rw [st_ni h, if_neg h, st_nf (by decide), remF_k (by omega) (by decide)]
theorem pG_13 {u : St} {n m : Nat} : pG u n 13 m = if m = n then u 13 n + 1 else u 13 m := by
  rw [pG_eq]
  rw [st_nf (by decide), setTr_ne (by decide), st_nf (by decide), st_nf (by decide)]
  by_cases h : m = n
  · subst h; rw [st_self, if_pos rfl, remF_k (by omega) (by decide)]
  · rw [st_ni h, if_neg h, remF_k (by omega) (by decide)]
theorem pG_8 {u : St} {n t : Nat} (hl : u 21 (u (40 + n) 0) ≤ 2) : pG u n 8 t = if t = tA u (pos3 u n) ∨ (u 21 (u (40 + n) 0) = 2 ∧ t = tB u (tA u (pos3 u n))) then u (40 + n) 0 else u 8 t := by
  rw [pG_eq]
  rw [st_nf (by decide)]
  generalize hu : st (st (st (remF u n) 13 n (remF u n 13 n + 1)) 24 (u (40 + n) 0) (tA u (pos3 u n))) 23 (u (40 + n) 0) 1 = w
  have e21 : w 21 (u (40 + n) 0) = u 21 (u (40 + n) 0) := by rw [← hu, st_nf (by decide), st_nf (by decide), st_nf (by decide), remF_k (by omega) (by decide)]
  have e24 : w 24 (u (40 + n) 0) = tA u (pos3 u n) := by rw [← hu, st_nf (by decide), st_self]
  have e0 : w 0 0 = u 0 0 := by rw [← hu, st_nf (by decide), st_nf (by decide), st_nf (by decide), remF_k (by omega) (by decide)]
  have e8 : w 8 t = u 8 t := by rw [← hu, st_nf (by decide), st_nf (by decide), st_nf (by decide), remF_k (by omega) (by decide)]
  have eb : ∀ q, tB w q = tB u q := fun q => by simp [tB, e0]
  rw [setTr_8 (by rw [e21]; exact hl), e21, e24, eb, e8]
theorem row_lt {u : St} {n w : Nat} (h : ∀ j, j + 1 < w → u (40 + n) j < u (40 + n) (j + 1)) : ∀ b a, a < b → b < w → u (40 + n) a < u (40 + n) b := by
  intro b
  induction b with
  | zero => intro a h1; omega
  | succ b ih =>
    intro a h1 h2
    have h3 := h b h2
    by_cases hq : a = b
    · subst hq; exact h3
    · exact Nat.lt_trans (ih a (by omega) (by omega)) h3
theorem Iv_pG {u : St} (h : Iv u) {n : Nat} (hn : 1 ≤ n ∧ n ≤ 4) (hw : u 12 n ≠ 0) : Iv (pG u n) := by
  obtain ⟨i1, i2, i3, ⟨i4, i4', i7⟩, i5, i6⟩ := h
  obtain ⟨r1, r2, r3, r4, r5⟩ := i5 n hn.1 hn.2
  obtain ⟨s1, s2, s3⟩ := r3 0 (by omega)
  have sb := r2 0
  obtain ⟨a1, a2, a3, a4, a5, a6, a7⟩ := i1
  have hlt := row_lt r4
  generalize hi : u (40 + n) 0 = i at *
  have k : ∀ f j, (f = 0 ∨ f = 2 ∨ f = 3 ∨ f = 5 ∨ f = 7 ∨ f = 9 ∨ f = 10 ∨ f = 21 ∨ f = 22 ∨ f = 30 ∨ f = 31) → pG u n f j = u f j := fun f j hf => pG_k (by omega)
  have k23 : ∀ j, pG u n 23 j = if j = i then 1 else u 23 j := fun j => by rw [pG_23, hi]
  have k24 : ∀ j, pG u n 24 j = if j = i then tA u (pos3 u n) else u 24 j := fun j => by rw [pG_24, hi]
  obtain ⟨b1, b2, b3, b4, b5, b6, b7⟩ := i2 i (by omega) sb
  have k8 : ∀ t, pG u n 8 t = if t = tA u (pos3 u n) ∨ (u 21 i = 2 ∧ t = tB u (tA u (pos3 u n))) then i else u 8 t := fun t => by rw [pG_8 (by rw [hi]; exact b4), hi]
  have ht : tA u (pos3 u n) < u 0 0 := tA_lt (pos3_lt hn a1 a2) a3
  have eb : ∀ t, tB (pG u n) t = tB u t := fun t => by simp [tB, k]
  refine ⟨?_, ?_, ?_, ⟨?_, ?_, ?_⟩, ?_, ?_⟩
  · unfold Iv1
    rw [k 0 0 (by omega), k 2 0 (by omega), k 30 0 (by omega), k 5 0 (by omega), k 7 0 (by omega)]; exact ⟨a1, a2, a3, a4, a5, a6, a7⟩
  · intro j ja jb
    rw [k 2 0 (by omega)] at jb
    rw [k23, k 22 j (by omega), k 21 j (by omega), k24, k 0 0 (by omega), k 31 j (by omega)]
    obtain ⟨c1, c2, c3, c4, c5, c6⟩ := i2 j ja jb
    refine ⟨?_, c2, c3, c4, ?_, c6⟩
    · split <;> omega
    · split
      · exact ht
      · exact c5
  · intro t
    rw [k8, k 2 0 (by omega)]
    split
    · rename_i hp
      refine ⟨sb, fun _ => ⟨Or.inl (by rw [k23, if_pos rfl]), ?_⟩⟩
      rw [k24, if_pos rfl, k 21 _ (by omega), eb]
      exact hp
    · obtain ⟨c1, c2⟩ := i3 t
      refine ⟨c1, fun z => ?_⟩
      obtain ⟨d1, d2⟩ := c2 z
      have hne : u 8 t ≠ i := fun y => by rw [y] at d1; omega
      rw [k23, if_neg hne, k24, if_neg hne, k 21 _ (by omega), eb]
      exact ⟨d1, d2⟩
  · rw [pG_4, k 2 0 (by omega)]
    have := cnt_upd (f := onL u) (g := onL (pG u n)) (i := i) (fun j hj => by unfold onL; rw [k23, if_neg hj]) (u 2 0) (by omega) sb
    have e1 : onL u i = 0 := by unfold onL; rw [if_neg (by omega)]
    have e2 : onL (pG u n) i = 1 := by unfold onL; rw [k23, if_pos rfl]; rfl
    rw [e1, e2] at this
    omega
  · rw [k 3 0 (by omega), k 2 0 (by omega), i4']
    refine (cnt_same (fun j => ?_) _).symm
    unfold isOut
    rw [k23]
    by_cases hj : j = i
    · subst hj; rw [if_pos rfl, s2]; rfl
    · rw [if_neg hj]
  · intro j hj
    rw [k 3 0 (by omega)] at hj
    rw [k 10 j (by omega), k23]
    have := i7 j hj
    rw [if_neg (fun z => by rw [z] at this; omega)]
    exact this
  · intro m ma mb
    rw [k 2 0 (by omega)]
    by_cases hm : m = n
    · subst hm
      rw [pG_12, if_pos rfl]
      have kr : ∀ j, j < u 12 m - 1 → pG u m (40 + m) j = u (40 + m) (j + 1) := fun j hj => by rw [pG_row, if_pos hj]
      refine ⟨by omega, fun j => ?_, fun j hj => ?_, fun j hj => ?_, fun j ja jb jc jd => ?_⟩
      · rw [pG_row]
        split
        · exact r2 _
        · split
          · exact Nat.zero_le _
          · exact r2 _
      · rw [kr j hj, k23, k 31 _ (by omega)]
        obtain ⟨c1, c2, c3⟩ := r3 (j + 1) (by omega)
        have := hlt (j + 1) 0 (by omega) (by omega)
        rw [if_neg (by omega)]
        exact ⟨c1, c2, c3⟩
      · rw [kr j (by omega), kr (j + 1) (by omega)]
        exact r4 (j + 1) (by omega)
      · rw [k23] at jc
        rw [k 31 j (by omega)] at jd
        by_cases hj : j = i
        · rw [if_pos hj] at jc; omega
        · rw [if_neg hj] at jc
          obtain ⟨q, q1, q2⟩ := r5 j ja jb jc jd
          have q0 : q ≠ 0 := fun z => by rw [z, hi] at q2; exact hj q2.symm
          refine ⟨q - 1, by omega, ?_⟩
          rw [kr (q - 1) (by omega), show q - 1 + 1 = q by omega]
          exact q2
    · have e40 : ∀ j, pG u n (40 + m) j = u (40 + m) j := fun j => pG_k (by omega)
      obtain ⟨c1, c2, c3, c4, c5⟩ := i5 m ma mb
      rw [pG_12, if_neg hm]
      simp only [e40]
      refine ⟨c1, c2, fun j hj => ?_, c4, fun j ja jb jc jd => ?_⟩
      · obtain ⟨d1, d2, d3⟩ := c3 j hj
        have hne : u (40 + m) j ≠ i := fun y => by rw [y] at d3; omega
        rw [k23, if_neg hne, k 31 _ (by omega)]
        exact ⟨d1, d2, d3⟩
      · rw [k23] at jc
        rw [k 31 j (by omega)] at jd
        by_cases hj : j = i
        · rw [if_pos hj] at jc; omega
        · rw [if_neg hj] at jc; exact c5 j ja jb jc jd
  · refine ⟨fun j => by rw [k 9 j (by omega), k 2 0 (by omega)]; exact i6.1 j, fun j => by rw [k 10 j (by omega), k 3 0 (by omega), k 2 0 (by omega)]; exact i6.2 j⟩
theorem Iv_putF' {u : St} (h : Iv u) {n : Nat} (hn : 1 ≤ n ∧ n ≤ 4) : Iv (putF u n) := by
  by_cases h1 : u 12 n = 0
  · rw [putF, if_pos h1]; exact h
  · by_cases h2 : freeFor u (u (40 + n) 0) (tA u (pos3 u n))
    · rw [putF_c h1 h2]; exact Iv_pG h hn h1
    · rw [putF, if_neg h1, if_neg h2]; exact h
end
section
theorem mvD_at {v : St} (g : Nat) (hg : g = 11 ∨ g = 12) (q : Nat) : ∀ j, j ≤ v 1 0 - 1 → mvD v j g q = if v 1 0 - 1 < q + j ∧ q ≤ v 1 0 - 1 then v g (q - 1) else v g q := by
  intro j
  induction j generalizing q with
  | zero => intro _; rw [if_neg (by omega)]; rfl
  | succ j ih =>
    intro hj
    show st (st (mvD v j) 11 (v 1 0 - 1 - j) (mvD v j 11 (v 1 0 - 1 - j - 1))) 12 (v 1 0 - 1 - j) (st (mvD v j) 11 (v 1 0 - 1 - j) (mvD v j 11 (v 1 0 - 1 - j - 1)) 12 (v 1 0 - 1 - j - 1)) g q = _
    rcases hg with rfl | rfl
    · rw [st_nf (by decide)]
      by_cases hq : q = v 1 0 - 1 - j
      · rw [hq, st_self, ih _ (by omega), if_neg (by omega), if_pos (by omega)]
      · rw [st_ni hq, ih _ (by omega)]
        by_cases h1 : v 1 0 - 1 < q + j ∧ q ≤ v 1 0 - 1
        · rw [if_pos h1, if_pos (by omega)]
        · rw [if_neg h1, if_neg (by omega)]
    · by_cases hq : q = v 1 0 - 1 - j
      · rw [hq, st_self, st_nf (by decide), ih _ (by omega), if_neg (by omega), if_pos (by omega)]
      · rw [st_ni hq, st_nf (by decide), ih _ (by omega)]
        by_cases h1 : v 1 0 - 1 < q + j ∧ q ≤ v 1 0 - 1
        · rw [if_pos h1, if_pos (by omega)]
        · rw [if_neg h1, if_neg (by omega)]
theorem mvA_at {v : St} (g : Nat) (hg : g = 11 ∨ g = 12) (q : Nat) : mvA v g q = if q = 0 then v g (v 1 0 - 1) else if q ≤ v 1 0 - 1 then v g (q - 1) else v g q := by
  unfold mvA
  rcases hg with rfl | rfl
  · rw [st_nf (by decide)]
    by_cases hq : q = 0
    · rw [hq, st_self, if_pos rfl]
    · rw [st_ni hq, if_neg hq, mvD_at 11 (Or.inl rfl) q _ (Nat.le_refl _)]
      by_cases h1 : q ≤ v 1 0 - 1
      · rw [if_pos (by omega), if_pos h1]
      · rw [if_neg (by omega), if_neg h1]
  · by_cases hq : q = 0
    · rw [hq, st_self, if_pos rfl]
    · rw [st_ni hq, st_nf (by decide), if_neg hq, mvD_at 12 (Or.inr rfl) q _ (Nat.le_refl _)]
      by_cases h1 : q ≤ v 1 0 - 1
      · rw [if_pos (by omega), if_pos h1]
      · rw [if_neg (by omega), if_neg h1]
theorem Sim_move {u v : St} (hI : Iv u) (h : Sim u v) : Sim (shf u) (mvA v) := by
  obtain ⟨⟨e1, e2, e3, e4, e5, e6⟩, ⟨m1, m2⟩, m3, m4, m5⟩ := h
  obtain ⟨a1, a2, a3, -⟩ := hI.1
  have k : ∀ f j, f ≠ 7 → shf u f j = u f j := fun f j hf => st_nf hf
  have k7 : shf u 7 0 = if u 7 0 + 1 < u 0 0 then u 7 0 + 1 else 0 := st_self
  have kv : ∀ f j, f ≠ 11 → f ≠ 12 → mvA v f j = v f j := fun f j h1 h2 => mvA_k h1 h2
  refine ⟨?_, ⟨fun q hq => ?_, fun q => ?_⟩, ?_, ?_, ?_⟩
  · unfold Sm1
    simp (disch := decide) only [k, kv]
    exact ⟨e1, e2, e3, e4, e5, e6⟩
  · rw [k 0 0 (by decide)] at hq
    have key : ∀ r, tA (shf u) q = tA u r → r < u 0 0 → mvA v 11 q = v 11 r → mvA v 12 q = v 12 r → mvA v 11 q = tA (shf u) q ∧ mvA v 12 q = shf u 8 (tA (shf u) q) := by
      intro r h1 h2 h3 h4
      obtain ⟨n1, n2⟩ := m1 r h2
      rw [h3, h4, h1, k 8 _ (by decide)]
      exact ⟨n1, n2⟩
    by_cases h0 : q = 0
    · refine key (u 0 0 - 1) ?_ (by omega) (by rw [mvA_at 11 (Or.inl rfl), if_pos h0, e1]) (by rw [mvA_at 12 (Or.inr rfl), if_pos h0, e1])
      unfold tA
      rw [k7, k 0 0 (by decide)]
      by_cases hs : u 7 0 + 1 < u 0 0
      · rw [if_pos hs, if_pos (by omega), if_neg (by omega)]; omega
      · rw [if_neg hs, if_neg (by omega), if_neg (by omega)]; omega
    · refine key (q - 1) ?_ (by omega) (by rw [mvA_at 11 (Or.inl rfl), if_neg h0, if_pos (by omega)]) (by rw [mvA_at 12 (Or.inr rfl), if_neg h0, if_pos (by omega)])
      unfold tA
      rw [k7, k 0 0 (by decide)]
      by_cases hs : u 7 0 + 1 < u 0 0
      · rw [if_pos hs]
        by_cases hl : q - 1 < u 7 0
        · rw [if_pos (by omega), if_pos hl]; omega
        · rw [if_neg (by omega), if_neg hl]; omega
      · rw [if_neg hs, if_neg (by omega), if_pos (by omega)]; omega
  · rw [k 2 0 (by decide), mvA_at 12 (Or.inr rfl)]
    split
    · exact m2 _
    · split <;> exact m2 _
  · unfold Sm3 at *; simp (disch := decide) only [k, kv]; exact m3
  · unfold Sm4 at *; simp (disch := decide) only [k, kv]; exact m4
  · unfold Sm5 at *; simp (disch := decide) only [k, kv]; exact m5
theorem tA_inj {u : St} {p q : Nat} (hp : p < u 0 0) (hq : q < u 0 0) (h7 : u 7 0 < u 0 0) (h : tA u p = tA u q) : p = q := by
  unfold tA at h
  by_cases h1 : p < u 7 0
  · rw [if_pos h1] at h
    by_cases h2 : q < u 7 0
    · rw [if_pos h2] at h; omega
    · rw [if_neg h2] at h; omega
  · rw [if_neg h1] at h
    by_cases h2 : q < u 7 0
    · rw [if_pos h2] at h; omega
    · rw [if_neg h2] at h; omega
theorem tA_B {u v : St} {p : Nat} (e : v 1 0 = u 0 0) (hp : p < u 0 0) (h7 : u 7 0 < u 0 0) : tA u (mB v p) = tB u (tA u p) := by
  unfold mB tB tA
  rw [e]
  by_cases h0 : p = 0
  · rw [if_pos h0]
    by_cases h1 : u 0 0 - 1 < u 7 0
    · omega
    · rw [if_neg h1]
      by_cases h2 : p < u 7 0
      · rw [if_pos h2, if_pos (by omega)]; omega
      · rw [if_neg h2, if_neg (by omega)]; omega
  · rw [if_neg h0]
    by_cases h1 : p - 1 < u 7 0
    · rw [if_pos h1]
      by_cases h2 : p < u 7 0
      · rw [if_pos h2, if_pos (by omega)]; omega
      · rw [if_neg h2, if_neg (by omega)]; omega
    · rw [if_neg h1, if_neg (show ¬ p < u 7 0 by omega), if_pos (by omega)]; omega
theorem setLd_12 {v : St} {i p x q : Nat} (hl : v 13 i ≤ 2) : setLd v i p x 12 q = if q = p ∨ (v 13 i = 2 ∧ q = mB v p) then x else v 12 q := by
  unfold setLd
  have e1 : st v 12 p x 13 i = v 13 i := st_nf (by decide)
  have e3 : mB (st v 12 p x) p = mB v p := by simp [mB, st]
  rw [e1, e3]
  have hq : nI (v 13 i) = nI 2 ↔ v 13 i = 2 := nI_eq (by omega) (by decide)
  by_cases h : v 13 i = 2
  · rw [if_pos (hq.mpr h)]
    by_cases ha : q = mB v p
    · rw [ha, st_self]; simp [h]
    · rw [st_ni ha]
      by_cases hb : q = p
      · rw [hb, st_self]; simp
      · rw [st_ni hb]; simp [ha, hb]
  · rw [if_neg (fun z => h (hq.mp z))]
    by_cases hb : q = p
    · rw [hb, st_self]; simp
    · rw [st_ni hb]; simp [h, hb]
theorem mo_12 {v : St} {i p c q : Nat} : mOut v i p c 12 q = setLd v i p 0 12 q := by simp [mOut, st]
theorem mo_15 {v : St} {i p c j : Nat} : mOut v i p c 15 j = if j = i then 3 else v 15 j := by simp [mOut, st, setLd_k]
theorem mo_20 {v : St} {i p c j : Nat} : mOut v i p c 20 j = if j = c then v 20 c + 1 else v 20 j := by simp [mOut, st, setLd_k]
theorem mo_22 {v : St} {i p c j : Nat} : mOut v i p c 22 j = if j = v 6 0 then i else v 22 j := by simp [mOut, st, setLd_k]
theorem mo_23 {v : St} {i p c j : Nat} : mOut v i p c 23 j = if j = v 6 0 then c else v 23 j := by simp [mOut, st, setLd_k]
theorem mo_24 {v : St} {i p c j : Nat} : mOut v i p c 24 j = if j = v 6 0 then v 4 0 else v 24 j := by simp [mOut, st, setLd_k]
theorem mo_6 {v : St} {i p c : Nat} : mOut v i p c 6 0 = v 6 0 + 1 := by simp [mOut, st, setLd_k]
theorem mo_k {v : St} {i p c f j : Nat} (h : f ≠ 12 ∧ f ≠ 15 ∧ f ≠ 20 ∧ f ≠ 22 ∧ f ≠ 23 ∧ f ≠ 24 ∧ f ≠ 6) : mOut v i p c f j = v f j := by simp [mOut, st, setLd_k, h]
theorem Sim_out {u v : St} (hI : Iv u) (h : Sim u v) {i p c : Nat} (hp : p < u 0 0) (h1 : 1 ≤ i) (h2 : i ≤ u 2 0) (h3 : u 23 i = 1) (h4 : u 24 i = tA u p) : Sim (letOut u i c) (mOut v i p c) := by
  obtain ⟨⟨e1, e2, e3, e4, e5, e6⟩, ⟨m1, m2⟩, ⟨m3, m3'⟩, ⟨m4, m4'⟩, m5⟩ := h
  obtain ⟨a1, a2, a3, -⟩ := hI.1
  have hl := (hI.2.1 i h1 h2).2.2.2.1
  have i7 := hI.2.2.2.1.2.2
  have ku : ∀ f j, (f = 0 ∨ f = 1 ∨ f = 2 ∨ f = 5 ∨ f = 6 ∨ f = 7 ∨ f = 13 ∨ f = 19 ∨ f = 21 ∨ f = 22 ∨ f = 24 ∨ f = 25 ∨ f = 31) → letOut u i c f j = u f j := fun f j hf => lo_k (by omega)
  have kv : ∀ f j, (f = 1 ∨ f = 2 ∨ f = 3 ∨ f = 4 ∨ f = 5 ∨ f = 11 ∨ f = 13 ∨ f = 14 ∨ f = 16 ∨ f = 17 ∨ f = 18 ∨ f = 19 ∨ f = 21) → mOut v i p c f j = v f j := fun f j hf => mo_k (by omega)
  have et : ∀ q, tA (letOut u i c) q = tA u q := fun q => by simp [tA, ku]
  have e13 : v 13 i = u 21 i := (m3 i h1 h2).1
  refine ⟨?_, ⟨fun q hq => ?_, fun q => ?_⟩, ⟨fun j ja jb => ?_, fun j ja => ?_⟩, ⟨fun k hk => ?_, fun k hk => ?_⟩, fun j hj => ?_⟩
  · unfold Sm1
    rw [kv 1 0 (by omega), kv 2 0 (by omega), kv 5 0 (by omega), kv 3 0 (by omega), kv 4 0 (by omega), mo_6, lo_3, ku 0 0 (by omega), ku 1 0 (by omega), ku 2 0 (by omega), ku 5 0 (by omega), ku 6 0 (by omega)]
    exact ⟨e1, e2, e3, by omega, e5, e6⟩
  · rw [ku 0 0 (by omega)] at hq
    rw [kv 11 q (by omega), et, mo_12, setLd_12 (by omega), lo_8, setTr_8 hl, h4]
    obtain ⟨n1, n2⟩ := m1 q hq
    refine ⟨n1, ?_⟩
    have c1 : q = p ↔ tA u q = tA u p := ⟨fun z => by rw [z], fun z => tA_inj hq hp a3 z⟩
    have c2 : q = mB v p ↔ tA u q = tB u (tA u p) := by
      rw [← tA_B e1 hp a3]
      exact ⟨fun z => by rw [z], fun z => tA_inj hq (by have := mB_lt (v := v) (p := p) (by omega) (by omega); omega) a3 z⟩
    rw [e13]
    by_cases hc : q = p ∨ (u 21 i = 2 ∧ q = mB v p)
    · rw [if_pos hc, if_pos (by rw [← c1, ← c2]; exact hc)]
    · rw [if_neg hc, if_neg (by rw [← c1, ← c2]; exact hc)]; exact n2
  · rw [mo_12, setLd_12 (by omega), ku 2 0 (by omega)]
    split
    · exact Nat.zero_le _
    · exact m2 q
  · rw [ku 2 0 (by omega)] at jb
    rw [kv 13 j (by omega), kv 14 j (by omega), mo_15, kv 16 j (by omega), kv 17 j (by omega), kv 18 j (by omega), ku 21 j (by omega), ku 22 j (by omega), lo_23, ku 24 j (by omega), ku 25 j (by omega), ku 31 j (by omega)]
    obtain ⟨b1, b2, b3, b4⟩ := m3 j ja jb
    exact ⟨b1, b2, by rw [b3], b4⟩
  · rw [ku 2 0 (by omega)] at ja
    rw [mo_15, kv 16 j (by omega), kv 17 j (by omega), if_neg (by omega)]
    exact m3' j ja
  · rw [kv 19 k (by omega), ku 13 _ (by omega)]; exact m4 k hk
  · rw [mo_20, kv 21 k (by omega), lo_18, ku 19 k (by omega)]
    obtain ⟨b1, b2⟩ := m4' k hk
    refine ⟨?_, b2⟩
    by_cases hkc : k = c
    · rw [if_pos hkc, if_pos hkc, ← hkc, b1]
    · rw [if_neg hkc, if_neg hkc, b1]
  · rw [lo_3] at hj
    rw [mo_22, mo_23, mo_24, lo_10, lo_26, lo_27, e4]
    by_cases hg : j = u 3 0
    · rw [if_pos hg, if_pos hg, if_pos hg, if_pos hg, if_pos rfl, if_pos rfl]; exact ⟨rfl, rfl, e6⟩
    · rw [if_neg hg, if_neg hg, if_neg hg, if_neg hg]
      have := i7 j (by omega)
      rw [if_neg (fun z => by rw [z] at this; omega), if_neg (fun z => by rw [z] at this; omega)]
      exact m5 j (by omega)
theorem Sim_rnd {u v : St} (h : Sim u v) {i : Nat} (h1 : 1 ≤ i) (h2 : i ≤ u 2 0) : Sim (st u 25 i (u 25 i + 1)) (st v 17 i (v 17 i + 1)) := by
  obtain ⟨m0, m1, ⟨m3, m3'⟩, m4, m5⟩ := h
  have ku : ∀ f j, f ≠ 25 → st u 25 i (u 25 i + 1) f j = u f j := fun f j hf => st_nf hf
  have kv : ∀ f j, f ≠ 17 → st v 17 i (v 17 i + 1) f j = v f j := fun f j hf => st_nf hf
  have et : ∀ q, tA (st u 25 i (u 25 i + 1)) q = tA u q := fun q => by simp [tA, ku]
  refine ⟨?_, ?_, ⟨fun j ja jb => ?_, fun j ja => ?_⟩, ?_, ?_⟩
  · unfold Sm1 at *; simp (disch := decide) only [ku, kv]; exact m0
  · unfold Sm2 at *; simp (disch := decide) only [ku, kv, et]; exact m1
  · rw [ku 2 0 (by decide)] at jb
    simp (disch := decide) only [ku, kv]
    obtain ⟨b1, b2, b3, b4, b5, b6⟩ := m3 j ja jb
    refine ⟨b1, b2, b3, b4, ?_, b6⟩
    by_cases hj : j = i
    · subst hj; rw [st_self, st_self, b5]
    · rw [st_ni hj, st_ni hj]; exact b5
  · rw [ku 2 0 (by decide)] at ja
    simp (disch := decide) only [kv]
    rw [st_ni (by omega)]
    exact m3' j ja
  · unfold Sm4 at *; simp (disch := decide) only [ku, kv]; exact m4
  · unfold Sm5 at *; simp (disch := decide) only [ku, kv]; exact m5
theorem Sim_pass {u v : St} (hI : Iv u) (h : Sim u v) {c : Nat} (hc : c < 16) : Sim (passOne u c) (mPass v c) := by
  have h' := h
  obtain ⟨⟨e1, e2, e3, e4, e5, e6⟩, ⟨m1, m2⟩, ⟨m3, m3'⟩, ⟨m4, m4'⟩, m5⟩ := h'
  obtain ⟨a1, a2, a3, -⟩ := hI.1
  have hp : pos6 u c < u 0 0 := pos6_lt hc a1 a2
  have ep : mPos v c = pos6 u c := by show (c * v 1 0 + v 1 0 / 2) / 16 = _; rw [e1]
  obtain ⟨n1, n2⟩ := m1 _ hp
  have hb := (hI.2.2.1 (tA u (pos6 u c))).1
  unfold passOne mPass
  simp only [mHere, mWants, ep, n1, n2]
  generalize hi : u 8 (tA u (pos6 u c)) = i at *
  by_cases h0 : i = 0
  · rw [if_neg (fun z => z.1 h0), if_neg (fun z => z.1 h0)]; exact h
  · obtain ⟨b1, b2, b3, b4, b5, b6⟩ := m3 i (by omega) hb
    obtain ⟨c1, c2, c3, c4, c5, -⟩ := hI.2.1 i (by omega) hb
    have ht := tA_lt hp a3
    have q1 : nI (v 16 i) = nI (tA u (pos6 u c)) ↔ u 24 i = tA u (pos6 u c) := by rw [b4]; exact nI_eq (by omega) (by omega)
    have q2 : nI (v 15 i) = nI 1 ↔ u 23 i = 1 := by rw [b3]; exact nI_eq (by omega) (by decide)
    by_cases hh : u 24 i = tA u (pos6 u c) ∧ u 23 i = 1
    · rw [if_pos ⟨h0, hh⟩, if_pos ⟨h0, q1.mpr hh.1, q2.mpr hh.2⟩]
      have eR : roomy u c ↔ mRoom v c := by unfold roomy mRoom; rw [(m4' c hc).1, (m4' c hc).2]
      have eC : nI (v 14 i) = nI c ↔ nI (u 22 i) = nI c := by rw [b2]
      have eW : (nI (v 14 i) = nI c ∨ (c = 15 ∧ ¬ nI (v 17 i) < nI (v 2 0))) ↔ ¬ stays u i c := by
        rw [b2, b5, e2]; unfold stays
        by_cases x1 : nI (u 22 i) = nI c
        · simp [x1]
        · simp [x1]
      unfold passC
      by_cases hs : stays u i c
      · rw [if_pos hs, if_neg (fun z => eW.mp z.1 hs), if_neg (fun z => hs.1 (eC.mp z))]; exact h
      · rw [if_neg hs]
        by_cases hr : roomy u c
        · rw [if_pos hr, if_pos ⟨eW.mpr hs, eR.mp hr⟩]
          exact Sim_out hI h hp (by omega) hb hh.2 hh.1
        · have hw : ¬ ((nI (v 14 i) = nI c ∨ (c = 15 ∧ ¬ nI (v 17 i) < nI (v 2 0))) ∧ mRoom v c) := fun z => hr (eR.mpr z.2)
          rw [if_neg hr, if_neg hw]
          by_cases hx : nI (u 22 i) = nI c
          · rw [if_pos hx, if_pos (eC.mpr hx)]; exact Sim_rnd h (by omega) hb
          · rw [if_neg hx, if_neg (fun z => hx (eC.mp z))]; exact h
    · rw [if_neg (fun z => hh z.2), if_neg (fun z => hh ⟨q1.mp z.2.1, q2.mp z.2.2⟩)]; exact h
end
